/-! PURE FUNCTIONS OF METHODS -/
-- LP.isWithin
def f127 (I : tI) (J : tJ) (a0 : Int32) (a1 : Int32) (a2 : Int32) : Int32 × tI × tJ :=
  bif xcmp .lt a0 a1 then (0, I, J) else bif xcmp .gt a0 a2 then (0, I, J) else (1, I, J)
set_option maxRecDepth 100000 in
theorem f127_pq {sc : List Int32} {B : xM} {n : Nat} {I : tI} {J : tJ} {a0 : Int32} {a1 : Int32} {a2 : Int32} (hB : kB pT B) : ∀ {q : Int32 × tI × tJ}, f127 I J a0 a1 a2 = q → pq sc B n (xt_127, 3, 3) 0 [(0, .int a0), (1, .int a1), (2, .int a2)] [] I J (fun v I1 J1 => v = some (.int q.1) ∧ I1 = q.2.1 ∧ J1 = q.2.2) := by
  intro q hq
  unfold f127 at hq
  refine pq_s hB 2 (pc' := 2) (L' := [(0, .int a0), (1, .int a1), (2, .int a2)]) (st' := [.int a1, .int a0]) (I' := I) (J' := J) (by with_unfolding_all rfl) ?_
  refine pq_icn hB rfl (fun h1 => ?_) (fun h1 => ?_)
  · rw [h1, cond_true] at hq
    refine pq_s hB 1 (pc' := 15) (L' := [(0, .int a0), (1, .int a1), (2, .int a2)]) (st' := [.int 0]) (I' := I) (J' := J) (by with_unfolding_all rfl) ?_
    subst hq
    exact pq_2i (x := 0) rfl ⟨rfl, rfl, rfl⟩
  · rw [h1, cond_false] at hq
    refine pq_s hB 2 (pc' := 7) (L' := [(0, .int a0), (1, .int a1), (2, .int a2)]) (st' := [.int a2, .int a0]) (I' := I) (J' := J) (by with_unfolding_all rfl) ?_
    refine pq_icn hB rfl (fun h2 => ?_) (fun h2 => ?_)
    · rw [h2, cond_true] at hq
      refine pq_s hB 1 (pc' := 15) (L' := [(0, .int a0), (1, .int a1), (2, .int a2)]) (st' := [.int 0]) (I' := I) (J' := J) (by with_unfolding_all rfl) ?_
      subst hq
      exact pq_2i (x := 0) rfl ⟨rfl, rfl, rfl⟩
    · rw [h2, cond_false] at hq
      refine pq_s hB 2 (pc' := 15) (L' := [(0, .int a0), (1, .int a1), (2, .int a2)]) (st' := [.int 1]) (I' := I) (J' := J) (by with_unfolding_all rfl) ?_
      subst hq
      exact pq_2i (x := 1) rfl ⟨rfl, rfl, rfl⟩
-- LP$Runs.forget
def f71_52 (I : tI) (J : tJ) : Unit × tI × tJ :=
  ((), (tup (tup (tup I 52 0 0) 52 1 0) 52 2 0), J)
set_option maxRecDepth 100000 in
theorem f71_52_pq {sc : List Int32} {B : xM} {n : Nat} {I : tI} {J : tJ} (hB : kB pT B) : ∀ {q : Unit × tI × tJ}, f71_52 I J = q → pq sc B n (xt_71, 1, 0) 0 [(0, .ref 52)] [] I J (fun v I1 J1 => v = none ∧ I1 = q.2.1 ∧ J1 = q.2.2) := by
  intro q hq
  unfold f71_52 at hq
  refine pq_s hB 9 (pc' := 15) (L' := [(0, .ref 52)]) (st' := []) (I' := (tup (tup (tup I 52 0 0) 52 1 0) 52 2 0)) (J' := J) (by with_unfolding_all rfl) ?_
  subst hq
  exact pq_2 (v := none) rfl rfl (by with_unfolding_all rfl) ⟨rfl, rfl, rfl⟩
-- Arrays.fill, the loop at 5, to [20]
def f355_59_l5 (N : Nat) : Nat → tI → tJ → Int32 → Int32 → Int32 → Option (Int32 × Int32 × Int32 × tI × tJ)
  | 0, _, _, _, _, _ => none
  | k + 1, I, J, x1, x2, x3 =>
    bif xcmp .ge x2 x3 then some (x1, x2, x3, I, J) else f355_59_l5 N k (tup I 59 ((x2).toNatClampNeg) x1) J x1 (x2 + 1) x3
set_option maxRecDepth 100000 in
theorem f355_59_l5_pq {sc : List Int32} {B : xM} {N : Nat} {P : Option Value → tI → tJ → Prop} (hB : kB pT B) : ∀ (k : Nat), k ≤ N → ∀ (b m : Nat), b ≤ k → b ≤ m → ∀ {I : tI} {J : tJ} {x1 : Int32} {x2 : Int32} {x3 : Int32} {Y : Option (Int32 × Int32 × Int32 × tI × tJ)}, f355_59_l5 N k I J x1 x2 x3 = Y → (∀ {y1 : Int32} {y2 : Int32} {y3 : Int32} {I1 : tI} {J1 : tJ}, Y = some (y1, y2, y3, I1, J1) → pq sc B m (xt_355, 4, 0) 20 [(0, .ref 59), (1, .int y1), (2, .int y2), (3, .int y3)] [] I1 J1 P) → pq sc B b (xt_355, 4, 0) 5 [(0, .ref 59), (1, .int x1), (2, .int x2), (3, .int x3)] [] I J P
  | 0, _, b, _, hb, _, _, _, _, _, _, _, _, _ => by
    have e : b = 0 := by omega
    subst e
    exact pq_zero
  | _ + 1, _, 0, _, _, _, _, _, _, _, _, _, _, _ => pq_zero
  | k + 1, hk, b + 1, m, hb, hm, I, J, x1, x2, x3, Y, hq, hx0 => by
    unfold f355_59_l5 at hq
    have hle : b ≤ N := by omega
    refine pq_s1 hB 1 (pc' := 7) (L' := [(0, .ref 59), (1, .int x1), (2, .int x2), (3, .int x3)]) (st' := [.int x3, .int x2]) (I' := I) (J' := J) (by with_unfolding_all rfl) ?_
    refine pq_icn hB rfl (fun h1 => ?_) (fun h1 => ?_)
    · rw [h1, cond_true] at hq
      exact pq_le (by omega) (hx0 hq.symm)
    · rw [h1, cond_false] at hq
      refine pq_s hB 6 (pc' := 5) (L' := [(2, .int (x2 + 1)), (0, .ref 59), (1, .int x1), (3, .int x3)]) (st' := []) (I' := (tup I 59 ((x2).toNatClampNeg) x1)) (J' := J) (by with_unfolding_all rfl) ?_
      refine pq_perm (L := [(0, .ref 59), (1, .int x1), (2, .int (x2 + 1)), (3, .int x3)]) (leqn_of ⟨rfl, rfl, rfl, rfl, trivial⟩ ⟨rfl, rfl, rfl, rfl, trivial⟩ ⟨rfl, rfl, rfl, rfl, trivial⟩) ?_
      exact f355_59_l5_pq hB k (by omega) b m (by omega) (by omega) hq hx0
-- Arrays.fill
def f355_59 (N : Nat) (I : tI) (J : tJ) (a0 : Int32) : Option (Unit × tI × tJ) :=
  (match f355_59_l5 N N I J a0 0 121 with | none => none | some (y1_1, y1_2, y1_3, I1, J1) => some ((), I1, J1))
set_option maxRecDepth 100000 in
theorem f355_59_pq {sc : List Int32} {B : xM} {N : Nat} {I : tI} {J : tJ} {a0 : Int32} (hB : kB pT B) : ∀ {X : Option (Unit × tI × tJ)}, f355_59 N I J a0 = X → pq sc B N (xt_355, 4, 0) 0 [(0, .ref 59), (1, .int a0)] [] I J (fun v I1 J1 => v = none ∧ X = some ((), I1, J1)) := by
  intro X hq
  unfold f355_59 at hq
  have hle : N ≤ N := Nat.le_refl N
  refine pq_s hB 5 (pc' := 5) (L' := [(3, .int 121), (2, .int 0), (0, .ref 59), (1, .int a0)]) (st' := []) (I' := I) (J' := J) (by with_unfolding_all rfl) ?_
  refine pq_perm (L := [(0, .ref 59), (1, .int a0), (2, .int 0), (3, .int 121)]) (leqn_of ⟨rfl, rfl, rfl, rfl, trivial⟩ ⟨rfl, rfl, rfl, rfl, trivial⟩ ⟨rfl, rfl, rfl, rfl, trivial⟩) ?_
  refine f355_59_l5_pq hB N (Nat.le_refl N) N N hle (Nat.le_refl N) rfl ?_
  intro y1_1 y1_2 y1_3 I1 J1 hc1
  rw [hc1] at hq
  dsimp only at hq
  subst hq
  exact pq_2 (v := none) rfl rfl (by with_unfolding_all rfl) ⟨rfl, rfl⟩
-- LP$World.empty
def f104_36 (N : Nat) (I : tI) (J : tJ) : Option (Unit × tI × tJ) :=
  (match f71_52 (tup (tup (tup (tup (tup I 37 0 0) 37 1 0) 38 0 0) 38 1 0) 47 0 0) (tup J 37 2 0) with | (_, I1, J1) => (match f355_59 N (tup (tup (tup I1 36 4 5) 36 5 1) 36 6 0) J1 (-1) with | none => none | some (_, I2, J2) => some ((), I2, J2)))
set_option maxRecDepth 100000 in
theorem f104_36_pq {sc : List Int32} {B : xM} {N : Nat} {I : tI} {J : tJ} (hB : kB pT B) : ∀ {X : Option (Unit × tI × tJ)}, f104_36 N I J = X → pq sc B N (xt_104, 1, 0) 0 [(0, .ref 36)] [] I J (fun v I1 J1 => v = none ∧ X = some ((), I1, J1)) := by
  intro X hq
  unfold f104_36 at hq
  have hle : N ≤ N := Nat.le_refl N
  refine pq_s hB 26 (pc' := 52) (L' := [(0, .ref 36)]) (st' := [.ref 52]) (I' := (tup (tup (tup (tup (tup I 37 0 0) 37 1 0) 38 0 0) 38 1 0) 47 0 0)) (J' := (tup J 37 2 0)) (by with_unfolding_all rfl) ?_
  generalize hc1 : f71_52 (tup (tup (tup (tup (tup I 37 0 0) 37 1 0) 38 0 0) 38 1 0) 47 0 0) (tup J 37 2 0) = q1 at hq
  obtain ⟨v1, _, _⟩ := q1
  dsimp only at hq
  refine pq_1 rfl rfl rfl rfl (f71_52_pq hB hc1) ?_
  rintro _ I1 J1 ⟨rfl, rfl, rfl⟩
  refine pq_s hB 12 (pc' := 75) (L' := [(0, .ref 36)]) (st' := [.int (-1), .ref 59]) (I' := (tup (tup (tup I1 36 4 5) 36 5 1) 36 6 0)) (J' := J1) (by with_unfolding_all rfl) ?_
  refine pq_1 rfl rfl rfl rfl (pq_le hle (f355_59_pq hB rfl)) ?_
  rintro _ I2 J2 ⟨rfl, hc2⟩
  rw [hc2] at hq
  dsimp only at hq
  subst hq
  exact pq_2 (v := none) rfl rfl (by with_unfolding_all rfl) ⟨rfl, rfl⟩
-- LP$Reader.advance, the loop at 8, to [60]
def f25_8_l8 (N : Nat) : Nat → tI → tJ → Option (tI × tJ)
  | 0, _, _ => none
  | k + 1, I, J =>
    bif xcmp .ge (I 8 3) (I 8 1) then some (I, J) else bif xcmp .eq (I 9 ((I 8 3)).toNatClampNeg) 32 then f25_8_l8 N k (tup I 8 3 ((I 8 3) + 1)) J else bif xcmp .ne (I 9 ((I 8 3)).toNatClampNeg) 10 then some (I, J) else f25_8_l8 N k (tup I 8 3 ((I 8 3) + 1)) J
set_option maxRecDepth 100000 in
theorem f25_8_l8_pq {sc : List Int32} {B : xM} {N : Nat} {P : Option Value → tI → tJ → Prop} (hB : kB pT B) : ∀ (k : Nat), k ≤ N → ∀ (b m : Nat), b ≤ k → b ≤ m → ∀ {I : tI} {J : tJ} {Y : Option (tI × tJ)}, f25_8_l8 N k I J = Y → (∀ {I1 : tI} {J1 : tJ}, Y = some (I1, J1) → pq sc B m (xt_25, 1, 0) 60 [(0, .ref 8)] [] I1 J1 P) → pq sc B b (xt_25, 1, 0) 8 [(0, .ref 8)] [] I J P
  | 0, _, b, _, hb, _, _, _, _, _, _ => by
    have e : b = 0 := by omega
    subst e
    exact pq_zero
  | _ + 1, _, 0, _, _, _, _, _, _, _, _ => pq_zero
  | k + 1, hk, b + 1, m, hb, hm, I, J, Y, hq, hx0 => by
    unfold f25_8_l8 at hq
    have hle : b ≤ N := by omega
    refine pq_s1 hB 3 (pc' := 16) (L' := [(0, .ref 8)]) (st' := [.int (I 8 1), .int (I 8 3)]) (I' := I) (J' := J) (by with_unfolding_all rfl) ?_
    refine pq_icn hB rfl (fun h1 => ?_) (fun h1 => ?_)
    · rw [h1, cond_true] at hq
      exact pq_le (by omega) (hx0 hq.symm)
    · rw [h1, cond_false] at hq
      refine pq_s hB 6 (pc' := 30) (L' := [(0, .ref 8)]) (st' := [.int 32, .int (I 9 ((I 8 3)).toNatClampNeg)]) (I' := I) (J' := J) (by with_unfolding_all rfl) ?_
      refine pq_icn hB rfl (fun h2 => ?_) (fun h2 => ?_)
      · rw [h2, cond_true] at hq
        refine pq_s hB 7 (pc' := 8) (L' := [(0, .ref 8)]) (st' := []) (I' := (tup I 8 3 ((I 8 3) + 1))) (J' := J) (by with_unfolding_all rfl) ?_
        exact f25_8_l8_pq hB k (by omega) b m (by omega) (by omega) hq hx0
      · rw [h2, cond_false] at hq
        refine pq_s hB 6 (pc' := 44) (L' := [(0, .ref 8)]) (st' := [.int 10, .int (I 9 ((I 8 3)).toNatClampNeg)]) (I' := I) (J' := J) (by with_unfolding_all rfl) ?_
        refine pq_icn hB rfl (fun h3 => ?_) (fun h3 => ?_)
        · rw [h3, cond_true] at hq
          exact pq_le (by omega) (hx0 hq.symm)
        · rw [h3, cond_false] at hq
          refine pq_s hB 7 (pc' := 8) (L' := [(0, .ref 8)]) (st' := []) (I' := (tup I 8 3 ((I 8 3) + 1))) (J' := J) (by with_unfolding_all rfl) ?_
          exact f25_8_l8_pq hB k (by omega) b m (by omega) (by omega) hq hx0
-- LP$Reader.isLetter
def f26_8 (I : tI) (J : tJ) (a0 : Int32) : Int32 × tI × tJ :=
  bif xcmp .ge a0 (I 8 1) then (0, I, J) else bif xcmp .lt (I 9 (a0).toNatClampNeg) 97 then (0, I, J) else bif xcmp .gt (I 9 (a0).toNatClampNeg) 122 then (0, I, J) else (1, I, J)
set_option maxRecDepth 100000 in
theorem f26_8_pq {sc : List Int32} {B : xM} {n : Nat} {I : tI} {J : tJ} {a0 : Int32} (hB : kB pT B) : ∀ {q : Int32 × tI × tJ}, f26_8 I J a0 = q → pq sc B n (xt_26, 2, 3) 0 [(0, .ref 8), (1, .int a0)] [] I J (fun v I1 J1 => v = some (.int q.1) ∧ I1 = q.2.1 ∧ J1 = q.2.2) := by
  intro q hq
  unfold f26_8 at hq
  refine pq_s hB 3 (pc' := 5) (L' := [(0, .ref 8), (1, .int a0)]) (st' := [.int (I 8 1), .int a0]) (I' := I) (J' := J) (by with_unfolding_all rfl) ?_
  refine pq_icn hB rfl (fun h1 => ?_) (fun h1 => ?_)
  · rw [h1, cond_true] at hq
    refine pq_s hB 1 (pc' := 35) (L' := [(0, .ref 8), (1, .int a0)]) (st' := [.int 0]) (I' := I) (J' := J) (by with_unfolding_all rfl) ?_
    subst hq
    exact pq_2i (x := 0) rfl ⟨rfl, rfl, rfl⟩
  · rw [h1, cond_false] at hq
    refine pq_s hB 5 (pc' := 16) (L' := [(0, .ref 8), (1, .int a0)]) (st' := [.int 97, .int (I 9 (a0).toNatClampNeg)]) (I' := I) (J' := J) (by with_unfolding_all rfl) ?_
    refine pq_icn hB rfl (fun h2 => ?_) (fun h2 => ?_)
    · rw [h2, cond_true] at hq
      refine pq_s hB 1 (pc' := 35) (L' := [(0, .ref 8), (1, .int a0)]) (st' := [.int 0]) (I' := I) (J' := J) (by with_unfolding_all rfl) ?_
      subst hq
      exact pq_2i (x := 0) rfl ⟨rfl, rfl, rfl⟩
    · rw [h2, cond_false] at hq
      refine pq_s hB 5 (pc' := 27) (L' := [(0, .ref 8), (1, .int a0)]) (st' := [.int 122, .int (I 9 (a0).toNatClampNeg)]) (I' := I) (J' := J) (by with_unfolding_all rfl) ?_
      refine pq_icn hB rfl (fun h3 => ?_) (fun h3 => ?_)
      · rw [h3, cond_true] at hq
        refine pq_s hB 1 (pc' := 35) (L' := [(0, .ref 8), (1, .int a0)]) (st' := [.int 0]) (I' := I) (J' := J) (by with_unfolding_all rfl) ?_
        subst hq
        exact pq_2i (x := 0) rfl ⟨rfl, rfl, rfl⟩
      · rw [h3, cond_false] at hq
        refine pq_s hB 2 (pc' := 35) (L' := [(0, .ref 8), (1, .int a0)]) (st' := [.int 1]) (I' := I) (J' := J) (by with_unfolding_all rfl) ?_
        subst hq
        exact pq_2i (x := 1) rfl ⟨rfl, rfl, rfl⟩
-- LP$Reader.isDigit
def f27_8 (I : tI) (J : tJ) (a0 : Int32) : Int32 × tI × tJ :=
  bif xcmp .ge a0 (I 8 1) then (0, I, J) else bif xcmp .lt (I 9 (a0).toNatClampNeg) 48 then (0, I, J) else bif xcmp .gt (I 9 (a0).toNatClampNeg) 57 then (0, I, J) else (1, I, J)
set_option maxRecDepth 100000 in
theorem f27_8_pq {sc : List Int32} {B : xM} {n : Nat} {I : tI} {J : tJ} {a0 : Int32} (hB : kB pT B) : ∀ {q : Int32 × tI × tJ}, f27_8 I J a0 = q → pq sc B n (xt_27, 2, 3) 0 [(0, .ref 8), (1, .int a0)] [] I J (fun v I1 J1 => v = some (.int q.1) ∧ I1 = q.2.1 ∧ J1 = q.2.2) := by
  intro q hq
  unfold f27_8 at hq
  refine pq_s hB 3 (pc' := 5) (L' := [(0, .ref 8), (1, .int a0)]) (st' := [.int (I 8 1), .int a0]) (I' := I) (J' := J) (by with_unfolding_all rfl) ?_
  refine pq_icn hB rfl (fun h1 => ?_) (fun h1 => ?_)
  · rw [h1, cond_true] at hq
    refine pq_s hB 1 (pc' := 35) (L' := [(0, .ref 8), (1, .int a0)]) (st' := [.int 0]) (I' := I) (J' := J) (by with_unfolding_all rfl) ?_
    subst hq
    exact pq_2i (x := 0) rfl ⟨rfl, rfl, rfl⟩
  · rw [h1, cond_false] at hq
    refine pq_s hB 5 (pc' := 16) (L' := [(0, .ref 8), (1, .int a0)]) (st' := [.int 48, .int (I 9 (a0).toNatClampNeg)]) (I' := I) (J' := J) (by with_unfolding_all rfl) ?_
    refine pq_icn hB rfl (fun h2 => ?_) (fun h2 => ?_)
    · rw [h2, cond_true] at hq
      refine pq_s hB 1 (pc' := 35) (L' := [(0, .ref 8), (1, .int a0)]) (st' := [.int 0]) (I' := I) (J' := J) (by with_unfolding_all rfl) ?_
      subst hq
      exact pq_2i (x := 0) rfl ⟨rfl, rfl, rfl⟩
    · rw [h2, cond_false] at hq
      refine pq_s hB 5 (pc' := 27) (L' := [(0, .ref 8), (1, .int a0)]) (st' := [.int 57, .int (I 9 (a0).toNatClampNeg)]) (I' := I) (J' := J) (by with_unfolding_all rfl) ?_
      refine pq_icn hB rfl (fun h3 => ?_) (fun h3 => ?_)
      · rw [h3, cond_true] at hq
        refine pq_s hB 1 (pc' := 35) (L' := [(0, .ref 8), (1, .int a0)]) (st' := [.int 0]) (I' := I) (J' := J) (by with_unfolding_all rfl) ?_
        subst hq
        exact pq_2i (x := 0) rfl ⟨rfl, rfl, rfl⟩
      · rw [h3, cond_false] at hq
        refine pq_s hB 2 (pc' := 35) (L' := [(0, .ref 8), (1, .int a0)]) (st' := [.int 1]) (I' := I) (J' := J) (by with_unfolding_all rfl) ?_
        subst hq
        exact pq_2i (x := 1) rfl ⟨rfl, rfl, rfl⟩
-- LP$Reader.scanSign
def f30_8 (I : tI) (J : tJ) : Unit × tI × tJ :=
  bif xcmp .eq ((I 9 ((I 8 3)).toNatClampNeg)) 59 then ((), (tup (tup (tup I 8 7 (I 9 ((I 8 3)).toNatClampNeg)) 8 2 3) 8 4 ((I 8 3) + 1)), J) else bif xcmp .eq ((I 9 ((I 8 3)).toNatClampNeg)) 60 then ((), (tup (tup (tup I 8 7 (I 9 ((I 8 3)).toNatClampNeg)) 8 2 3) 8 4 ((I 8 3) + 1)), J) else bif xcmp .eq ((I 9 ((I 8 3)).toNatClampNeg)) 62 then ((), (tup (tup (tup I 8 7 (I 9 ((I 8 3)).toNatClampNeg)) 8 2 3) 8 4 ((I 8 3) + 1)), J) else bif xcmp .ne ((I 9 ((I 8 3)).toNatClampNeg)) 61 then ((), (tup (tup (tup I 8 7 (I 9 ((I 8 3)).toNatClampNeg)) 8 2 4) 8 4 ((I 8 3) + 1)), J) else ((), (tup (tup (tup I 8 7 (I 9 ((I 8 3)).toNatClampNeg)) 8 2 3) 8 4 ((I 8 3) + 1)), J)
set_option maxRecDepth 100000 in
theorem f30_8_pq {sc : List Int32} {B : xM} {n : Nat} {I : tI} {J : tJ} (hB : kB pT B) : ∀ {q : Unit × tI × tJ}, f30_8 I J = q → pq sc B n (xt_30, 1, 0) 0 [(0, .ref 8)] [] I J (fun v I1 J1 => v = none ∧ I1 = q.2.1 ∧ J1 = q.2.2) := by
  intro q hq
  unfold f30_8 at hq
  refine pq_s hB 11 (pc' := 20) (L' := [(0, .ref 8)]) (st' := [.int 59, .int ((I 9 ((I 8 3)).toNatClampNeg)), .ref 8]) (I' := (tup I 8 7 (I 9 ((I 8 3)).toNatClampNeg))) (J' := J) (by with_unfolding_all rfl) ?_
  refine pq_icn hB rfl (fun h1 => ?_) (fun h1 => ?_)
  · rw [h1, cond_true] at hq
    refine pq_s hB 9 (pc' := 68) (L' := [(0, .ref 8)]) (st' := []) (I' := (tup (tup (tup I 8 7 (I 9 ((I 8 3)).toNatClampNeg)) 8 2 3) 8 4 ((I 8 3) + 1))) (J' := J) (by with_unfolding_all rfl) ?_
    subst hq
    exact pq_2 (v := none) rfl rfl (by with_unfolding_all rfl) ⟨rfl, rfl, rfl⟩
  · rw [h1, cond_false] at hq
    refine pq_s hB 3 (pc' := 29) (L' := [(0, .ref 8)]) (st' := [.int 60, .int ((I 9 ((I 8 3)).toNatClampNeg)), .ref 8]) (I' := (tup I 8 7 (I 9 ((I 8 3)).toNatClampNeg))) (J' := J) (by with_unfolding_all rfl) ?_
    refine pq_icn hB rfl (fun h2 => ?_) (fun h2 => ?_)
    · rw [h2, cond_true] at hq
      refine pq_s hB 9 (pc' := 68) (L' := [(0, .ref 8)]) (st' := []) (I' := (tup (tup (tup I 8 7 (I 9 ((I 8 3)).toNatClampNeg)) 8 2 3) 8 4 ((I 8 3) + 1))) (J' := J) (by with_unfolding_all rfl) ?_
      subst hq
      exact pq_2 (v := none) rfl rfl (by with_unfolding_all rfl) ⟨rfl, rfl, rfl⟩
    · rw [h2, cond_false] at hq
      refine pq_s hB 3 (pc' := 38) (L' := [(0, .ref 8)]) (st' := [.int 62, .int ((I 9 ((I 8 3)).toNatClampNeg)), .ref 8]) (I' := (tup I 8 7 (I 9 ((I 8 3)).toNatClampNeg))) (J' := J) (by with_unfolding_all rfl) ?_
      refine pq_icn hB rfl (fun h3 => ?_) (fun h3 => ?_)
      · rw [h3, cond_true] at hq
        refine pq_s hB 9 (pc' := 68) (L' := [(0, .ref 8)]) (st' := []) (I' := (tup (tup (tup I 8 7 (I 9 ((I 8 3)).toNatClampNeg)) 8 2 3) 8 4 ((I 8 3) + 1))) (J' := J) (by with_unfolding_all rfl) ?_
        subst hq
        exact pq_2 (v := none) rfl rfl (by with_unfolding_all rfl) ⟨rfl, rfl, rfl⟩
      · rw [h3, cond_false] at hq
        refine pq_s hB 3 (pc' := 47) (L' := [(0, .ref 8)]) (st' := [.int 61, .int ((I 9 ((I 8 3)).toNatClampNeg)), .ref 8]) (I' := (tup I 8 7 (I 9 ((I 8 3)).toNatClampNeg))) (J' := J) (by with_unfolding_all rfl) ?_
        refine pq_icn hB rfl (fun h4 => ?_) (fun h4 => ?_)
        · rw [h4, cond_true] at hq
          refine pq_s hB 8 (pc' := 68) (L' := [(0, .ref 8)]) (st' := []) (I' := (tup (tup (tup I 8 7 (I 9 ((I 8 3)).toNatClampNeg)) 8 2 4) 8 4 ((I 8 3) + 1))) (J' := J) (by with_unfolding_all rfl) ?_
          subst hq
          exact pq_2 (v := none) rfl rfl (by with_unfolding_all rfl) ⟨rfl, rfl, rfl⟩
        · rw [h4, cond_false] at hq
          refine pq_s hB 9 (pc' := 68) (L' := [(0, .ref 8)]) (st' := []) (I' := (tup (tup (tup I 8 7 (I 9 ((I 8 3)).toNatClampNeg)) 8 2 3) 8 4 ((I 8 3) + 1))) (J' := J) (by with_unfolding_all rfl) ?_
          subst hq
          exact pq_2 (v := none) rfl rfl (by with_unfolding_all rfl) ⟨rfl, rfl, rfl⟩
-- LP$Reader.scanNumber, the loop at 0, to [72]
def f29_8_l0 (N : Nat) : Nat → tI → tJ → Option (tI × tJ)
  | 0, _, _ => none
  | k + 1, I, J =>
    bif xcmp .ge (I 8 4) (I 8 1) then some (I, J) else (match f27_8 I J (I 8 4) with | (v2, I2, J2) => bif xcmp .eq v2 0 then some (I2, J2) else bif xcmp .ge ((I2 8 4) - (I2 8 3)) 4 then f29_8_l0 N k (tup I2 8 4 ((I2 8 4) + 1)) J2 else f29_8_l0 N k (tup (tup I2 8 7 (((I2 8 7) * 10) + ((I2 9 ((I2 8 4)).toNatClampNeg) - 48))) 8 4 ((I2 8 4) + 1)) J2)
set_option maxRecDepth 100000 in
theorem f29_8_l0_pq {sc : List Int32} {B : xM} {N : Nat} {P : Option Value → tI → tJ → Prop} (hB : kB pT B) : ∀ (k : Nat), k ≤ N → ∀ (b m : Nat), b ≤ k → b ≤ m → ∀ {I : tI} {J : tJ} {Y : Option (tI × tJ)}, f29_8_l0 N k I J = Y → (∀ {I1 : tI} {J1 : tJ}, Y = some (I1, J1) → pq sc B m (xt_29, 1, 0) 72 [(0, .ref 8)] [] I1 J1 P) → pq sc B b (xt_29, 1, 0) 0 [(0, .ref 8)] [] I J P
  | 0, _, b, _, hb, _, _, _, _, _, _ => by
    have e : b = 0 := by omega
    subst e
    exact pq_zero
  | _ + 1, _, 0, _, _, _, _, _, _, _, _ => pq_zero
  | k + 1, hk, b + 1, m, hb, hm, I, J, Y, hq, hx0 => by
    unfold f29_8_l0 at hq
    have hle : b ≤ N := by omega
    refine pq_s1 hB 3 (pc' := 8) (L' := [(0, .ref 8)]) (st' := [.int (I 8 1), .int (I 8 4)]) (I' := I) (J' := J) (by with_unfolding_all rfl) ?_
    refine pq_icn hB rfl (fun h1 => ?_) (fun h1 => ?_)
    · rw [h1, cond_true] at hq
      exact pq_le (by omega) (hx0 hq.symm)
    · rw [h1, cond_false] at hq
      refine pq_s hB 3 (pc' := 16) (L' := [(0, .ref 8)]) (st' := [.int (I 8 4), .ref 8]) (I' := I) (J' := J) (by with_unfolding_all rfl) ?_
      generalize hc2 : f27_8 I J (I 8 4) = q2 at hq
      obtain ⟨v2, _, _⟩ := q2
      dsimp only at hq
      refine pq_1 rfl rfl rfl rfl (f27_8_pq hB hc2) ?_
      rintro _ I2 J2 ⟨rfl, rfl, rfl⟩
      refine pq_ifn hB rfl (fun h3 => ?_) (fun h3 => ?_)
      · rw [h3, cond_true] at hq
        exact pq_le (by omega) (hx0 hq.symm)
      · rw [h3, cond_false] at hq
        refine pq_s hB 6 (pc' := 32) (L' := [(0, .ref 8)]) (st' := [.int 4, .int ((I2 8 4) - (I2 8 3))]) (I' := I2) (J' := J2) (by with_unfolding_all rfl) ?_
        refine pq_icn hB rfl (fun h4 => ?_) (fun h4 => ?_)
        · rw [h4, cond_true] at hq
          refine pq_s hB 7 (pc' := 0) (L' := [(0, .ref 8)]) (st' := []) (I' := (tup I2 8 4 ((I2 8 4) + 1))) (J' := J2) (by with_unfolding_all rfl) ?_
          exact f29_8_l0_pq hB k (by omega) b m (by omega) (by omega) hq hx0
        · rw [h4, cond_false] at hq
          refine pq_s hB 21 (pc' := 0) (L' := [(0, .ref 8)]) (st' := []) (I' := (tup (tup I2 8 7 (((I2 8 7) * 10) + ((I2 9 ((I2 8 4)).toNatClampNeg) - 48))) 8 4 ((I2 8 4) + 1))) (J' := J2) (by with_unfolding_all rfl) ?_
          exact f29_8_l0_pq hB k (by omega) b m (by omega) (by omega) hq hx0
-- LP$Reader.scanNumber, from 72 on
def f29_8_j72 (N : Nat) (I : tI) (J : tJ) : Option (Unit × tI × tJ) :=
  bif xcmp .le ((I 8 4) - (I 8 3)) 4 then some ((), (tup I 8 2 2), J) else some ((), (tup I 8 2 4), J)
set_option maxRecDepth 100000 in
theorem f29_8_j72_pq {sc : List Int32} {B : xM} {N : Nat} {I : tI} {J : tJ} (hB : kB pT B) : ∀ {X : Option (Unit × tI × tJ)}, f29_8_j72 N I J = X → pq sc B N (xt_29, 1, 0) 72 [(0, .ref 8)] [] I J (fun v I1 J1 => v = none ∧ X = some ((), I1, J1)) := by
  intro X hq
  unfold f29_8_j72 at hq
  have hle : N ≤ N := Nat.le_refl N
  refine pq_s hB 7 (pc' := 83) (L' := [(0, .ref 8)]) (st' := [.int 4, .int ((I 8 4) - (I 8 3)), .ref 8]) (I' := I) (J' := J) (by with_unfolding_all rfl) ?_
  refine pq_icn hB rfl (fun h2 => ?_) (fun h2 => ?_)
  · rw [h2, cond_true] at hq
    refine pq_s hB 2 (pc' := 94) (L' := [(0, .ref 8)]) (st' := []) (I' := (tup I 8 2 2)) (J' := J) (by with_unfolding_all rfl) ?_
    subst hq
    exact pq_2 (v := none) rfl rfl (by with_unfolding_all rfl) ⟨rfl, rfl⟩
  · rw [h2, cond_false] at hq
    refine pq_s hB 3 (pc' := 94) (L' := [(0, .ref 8)]) (st' := []) (I' := (tup I 8 2 4)) (J' := J) (by with_unfolding_all rfl) ?_
    subst hq
    exact pq_2 (v := none) rfl rfl (by with_unfolding_all rfl) ⟨rfl, rfl⟩
-- LP$Reader.scanNumber
def f29_8 (N : Nat) (I : tI) (J : tJ) : Option (Unit × tI × tJ) :=
  (match f29_8_l0 N N I J with | none => none | some (I1, J1) => f29_8_j72 N I1 J1)
set_option maxRecDepth 100000 in
theorem f29_8_pq {sc : List Int32} {B : xM} {N : Nat} {I : tI} {J : tJ} (hB : kB pT B) : ∀ {X : Option (Unit × tI × tJ)}, f29_8 N I J = X → pq sc B N (xt_29, 1, 0) 0 [(0, .ref 8)] [] I J (fun v I1 J1 => v = none ∧ X = some ((), I1, J1)) := by
  intro X hq
  unfold f29_8 at hq
  have hle : N ≤ N := Nat.le_refl N
  refine f29_8_l0_pq hB N (Nat.le_refl N) N N hle (Nat.le_refl N) rfl ?_
  intro I1 J1 hc1
  rw [hc1] at hq
  dsimp only at hq
  exact f29_8_j72_pq hB hq
-- LP$Reader.scanWord, the loop at 5, to [82]
def f28_8_l5 (N : Nat) : Nat → tI → tJ → Option (tI × tJ)
  | 0, _, _ => none
  | k + 1, I, J =>
    bif xcmp .ge (I 8 4) (I 8 1) then some (I, J) else (match f26_8 I J (I 8 4) with | (v2, I2, J2) => bif xcmp .eq v2 0 then some (I2, J2) else bif xcmp .ge ((I2 8 4) - (I2 8 3)) 8 then f28_8_l5 N k (tup I2 8 4 ((I2 8 4) + 1)) J2 else f28_8_l5 N k (tup I2 8 4 ((I2 8 4) + 1)) (tup J2 8 6 (((J2 8 6) * 32) + (((((I2 9 ((I2 8 4)).toNatClampNeg) - 97) + 1)).toInt64))))
set_option maxRecDepth 100000 in
theorem f28_8_l5_pq {sc : List Int32} {B : xM} {N : Nat} {P : Option Value → tI → tJ → Prop} (hB : kB pT B) : ∀ (k : Nat), k ≤ N → ∀ (b m : Nat), b ≤ k → b ≤ m → ∀ {I : tI} {J : tJ} {Y : Option (tI × tJ)}, f28_8_l5 N k I J = Y → (∀ {I1 : tI} {J1 : tJ}, Y = some (I1, J1) → pq sc B m (xt_28, 1, 0) 82 [(0, .ref 8)] [] I1 J1 P) → pq sc B b (xt_28, 1, 0) 5 [(0, .ref 8)] [] I J P
  | 0, _, b, _, hb, _, _, _, _, _, _ => by
    have e : b = 0 := by omega
    subst e
    exact pq_zero
  | _ + 1, _, 0, _, _, _, _, _, _, _, _ => pq_zero
  | k + 1, hk, b + 1, m, hb, hm, I, J, Y, hq, hx0 => by
    unfold f28_8_l5 at hq
    have hle : b ≤ N := by omega
    refine pq_s1 hB 3 (pc' := 13) (L' := [(0, .ref 8)]) (st' := [.int (I 8 1), .int (I 8 4)]) (I' := I) (J' := J) (by with_unfolding_all rfl) ?_
    refine pq_icn hB rfl (fun h1 => ?_) (fun h1 => ?_)
    · rw [h1, cond_true] at hq
      exact pq_le (by omega) (hx0 hq.symm)
    · rw [h1, cond_false] at hq
      refine pq_s hB 3 (pc' := 21) (L' := [(0, .ref 8)]) (st' := [.int (I 8 4), .ref 8]) (I' := I) (J' := J) (by with_unfolding_all rfl) ?_
      generalize hc2 : f26_8 I J (I 8 4) = q2 at hq
      obtain ⟨v2, _, _⟩ := q2
      dsimp only at hq
      refine pq_1 rfl rfl rfl rfl (f26_8_pq hB hc2) ?_
      rintro _ I2 J2 ⟨rfl, rfl, rfl⟩
      refine pq_ifn hB rfl (fun h3 => ?_) (fun h3 => ?_)
      · rw [h3, cond_true] at hq
        exact pq_le (by omega) (hx0 hq.symm)
      · rw [h3, cond_false] at hq
        refine pq_s hB 6 (pc' := 38) (L' := [(0, .ref 8)]) (st' := [.int 8, .int ((I2 8 4) - (I2 8 3))]) (I' := I2) (J' := J2) (by with_unfolding_all rfl) ?_
        refine pq_icn hB rfl (fun h4 => ?_) (fun h4 => ?_)
        · rw [h4, cond_true] at hq
          refine pq_s hB 7 (pc' := 5) (L' := [(0, .ref 8)]) (st' := []) (I' := (tup I2 8 4 ((I2 8 4) + 1))) (J' := J2) (by with_unfolding_all rfl) ?_
          exact f28_8_l5_pq hB k (by omega) b m (by omega) (by omega) hq hx0
        · rw [h4, cond_false] at hq
          refine pq_s hB 24 (pc' := 5) (L' := [(0, .ref 8)]) (st' := []) (I' := (tup I2 8 4 ((I2 8 4) + 1))) (J' := (tup J2 8 6 (((J2 8 6) * 32) + (((((I2 9 ((I2 8 4)).toNatClampNeg) - 97) + 1)).toInt64)))) (by with_unfolding_all rfl) ?_
          exact f28_8_l5_pq hB k (by omega) b m (by omega) (by omega) hq hx0
-- LP$Reader.scanWord
def f28_8 (N : Nat) (I : tI) (J : tJ) : Option (Unit × tI × tJ) :=
  (match f28_8_l5 N N (tup I 8 2 1) J with | none => none | some (I1, J1) => some ((), I1, J1))
set_option maxRecDepth 100000 in
theorem f28_8_pq {sc : List Int32} {B : xM} {N : Nat} {I : tI} {J : tJ} (hB : kB pT B) : ∀ {X : Option (Unit × tI × tJ)}, f28_8 N I J = X → pq sc B N (xt_28, 1, 0) 0 [(0, .ref 8)] [] I J (fun v I1 J1 => v = none ∧ X = some ((), I1, J1)) := by
  intro X hq
  unfold f28_8 at hq
  have hle : N ≤ N := Nat.le_refl N
  refine pq_s hB 3 (pc' := 5) (L' := [(0, .ref 8)]) (st' := []) (I' := (tup I 8 2 1)) (J' := J) (by with_unfolding_all rfl) ?_
  refine f28_8_l5_pq hB N (Nat.le_refl N) N N hle (Nat.le_refl N) rfl ?_
  intro I1 J1 hc1
  rw [hc1] at hq
  dsimp only at hq
  subst hq
  exact pq_2 (v := none) rfl rfl (by with_unfolding_all rfl) ⟨rfl, rfl⟩
-- LP$Reader.wordNumber, the loop at 12, to [103, 85]
def f31_8_l12 (N : Nat) : Nat → tI → tJ → Int32 → Int32 → Int32 → Int32 → Option (Nat × Int32 × Int32 × Int32 × Int32 × tI × tJ)
  | 0, _, _, _, _, _, _ => none
  | k + 1, I, J, x1, x2, x3, x4 =>
    bif xcmp .ge x4 162 then some (0, x1, x2, x3, x4, I, J) else bif xcmp .eq ((xsB.getD 0 []).getD (x4).toNatClampNeg 0) 32 then (bif xcmp .eq x3 0 then f31_8_l12 N k I J (x1 + 1) (I 8 3) 1 (x4 + 1) else bif xcmp .ne x2 (I 8 4) then f31_8_l12 N k I J (x1 + 1) (I 8 3) 1 (x4 + 1) else some (1, x1, x2, x3, x4, I, J)) else bif xcmp .eq x3 0 then f31_8_l12 N k I J x1 (x2 + 1) 0 (x4 + 1) else bif xcmp .ge x2 (I 8 4) then f31_8_l12 N k I J x1 (x2 + 1) 0 (x4 + 1) else bif xcmp .ne (I 9 (x2).toNatClampNeg) ((xsB.getD 0 []).getD (x4).toNatClampNeg 0) then f31_8_l12 N k I J x1 (x2 + 1) 0 (x4 + 1) else f31_8_l12 N k I J x1 (x2 + 1) 1 (x4 + 1)
set_option maxRecDepth 100000 in
theorem f31_8_l12_pq {sc : List Int32} {B : xM} {N : Nat} {P : Option Value → tI → tJ → Prop} (hB : kB pT B) : ∀ (k : Nat), k ≤ N → ∀ (b m : Nat), b ≤ k → b ≤ m → ∀ {I : tI} {J : tJ} {x1 : Int32} {x2 : Int32} {x3 : Int32} {x4 : Int32} {Y : Option (Nat × Int32 × Int32 × Int32 × Int32 × tI × tJ)}, f31_8_l12 N k I J x1 x2 x3 x4 = Y → (∀ {y1 : Int32} {y2 : Int32} {y3 : Int32} {y4 : Int32} {I1 : tI} {J1 : tJ}, Y = some (0, y1, y2, y3, y4, I1, J1) → pq sc B m (xt_31, 6, 1) 103 [(0, .ref 8), (1, .int y1), (2, .int y2), (3, .int y3), (4, .int y4)] [] I1 J1 P) → (∀ {y1 : Int32} {y2 : Int32} {y3 : Int32} {y4 : Int32} {I1 : tI} {J1 : tJ}, Y = some (1, y1, y2, y3, y4, I1, J1) → pq sc B m (xt_31, 6, 1) 85 [(0, .ref 8), (1, .int y1), (2, .int y2), (3, .int y3), (4, .int y4)] [] I1 J1 P) → pq sc B b (xt_31, 6, 1) 12 [(0, .ref 8), (1, .int x1), (2, .int x2), (3, .int x3), (4, .int x4)] [] I J P
  | 0, _, b, _, hb, _, _, _, _, _, _, _, _, _, _, _ => by
    have e : b = 0 := by omega
    subst e
    exact pq_zero
  | _ + 1, _, 0, _, _, _, _, _, _, _, _, _, _, _, _, _ => pq_zero
  | k + 1, hk, b + 1, m, hb, hm, I, J, x1, x2, x3, x4, Y, hq, hx0, hx1 => by
    unfold f31_8_l12 at hq
    have hle : b ≤ N := by omega
    refine pq_s1 hB 2 (pc' := 19) (L' := [(0, .ref 8), (1, .int x1), (2, .int x2), (3, .int x3), (4, .int x4)]) (st' := [.int 162, .int x4]) (I' := I) (J' := J) (by with_unfolding_all rfl) ?_
    refine pq_icn hB rfl (fun h1 => ?_) (fun h1 => ?_)
    · rw [h1, cond_true] at hq
      exact pq_le (by omega) (hx0 hq.symm)
    · rw [h1, cond_false] at hq
      refine pq_s hB 6 (pc' := 35) (L' := [(5, .int ((xsB.getD 0 []).getD (x4).toNatClampNeg 0)), (0, .ref 8), (1, .int x1), (2, .int x2), (3, .int x3), (4, .int x4)]) (st' := [.int 32, .int ((xsB.getD 0 []).getD (x4).toNatClampNeg 0)]) (I' := I) (J' := J) (by with_unfolding_all rfl) ?_
      refine pq_icn hB rfl (fun h2 => ?_) (fun h2 => ?_)
      · rw [h2, cond_true] at hq
        refine pq_s hB 1 (pc' := 74) (L' := [(5, .int ((xsB.getD 0 []).getD (x4).toNatClampNeg 0)), (0, .ref 8), (1, .int x1), (2, .int x2), (3, .int x3), (4, .int x4)]) (st' := [.int x3]) (I' := I) (J' := J) (by with_unfolding_all rfl) ?_
        refine pq_ifn hB rfl (fun h3 => ?_) (fun h3 => ?_)
        · rw [h3, cond_true] at hq
          refine pq_s hB 8 (pc' := 12) (L' := [(4, .int (x4 + 1)), (3, .int 1), (2, .int (I 8 3)), (1, .int (x1 + 1)), (5, .int ((xsB.getD 0 []).getD (x4).toNatClampNeg 0)), (0, .ref 8)]) (st' := []) (I' := I) (J' := J) (by with_unfolding_all rfl) ?_
          refine pq_perm (L := [(0, .ref 8), (1, .int (x1 + 1)), (2, .int (I 8 3)), (3, .int 1), (4, .int (x4 + 1))]) (leqn_of ⟨rfl, rfl, rfl, rfl, rfl, trivial⟩ ⟨rfl, rfl, rfl, rfl, rfl, trivial⟩ ⟨rfl, rfl, rfl, rfl, rfl, rfl, trivial⟩) ?_
          exact f31_8_l12_pq hB k (by omega) b m (by omega) (by omega) hq hx0 hx1
        · rw [h3, cond_false] at hq
          refine pq_s hB 3 (pc' := 82) (L' := [(5, .int ((xsB.getD 0 []).getD (x4).toNatClampNeg 0)), (0, .ref 8), (1, .int x1), (2, .int x2), (3, .int x3), (4, .int x4)]) (st' := [.int (I 8 4), .int x2]) (I' := I) (J' := J) (by with_unfolding_all rfl) ?_
          refine pq_icn hB rfl (fun h4 => ?_) (fun h4 => ?_)
          · rw [h4, cond_true] at hq
            refine pq_s hB 8 (pc' := 12) (L' := [(4, .int (x4 + 1)), (3, .int 1), (2, .int (I 8 3)), (1, .int (x1 + 1)), (5, .int ((xsB.getD 0 []).getD (x4).toNatClampNeg 0)), (0, .ref 8)]) (st' := []) (I' := I) (J' := J) (by with_unfolding_all rfl) ?_
            refine pq_perm (L := [(0, .ref 8), (1, .int (x1 + 1)), (2, .int (I 8 3)), (3, .int 1), (4, .int (x4 + 1))]) (leqn_of ⟨rfl, rfl, rfl, rfl, rfl, trivial⟩ ⟨rfl, rfl, rfl, rfl, rfl, trivial⟩ ⟨rfl, rfl, rfl, rfl, rfl, rfl, trivial⟩) ?_
            exact f31_8_l12_pq hB k (by omega) b m (by omega) (by omega) hq hx0 hx1
          · rw [h4, cond_false] at hq
            refine pq_perm (L := [(0, .ref 8), (1, .int x1), (2, .int x2), (3, .int x3), (4, .int x4)]) (leqn_of ⟨rfl, rfl, rfl, rfl, rfl, trivial⟩ ⟨rfl, rfl, rfl, rfl, rfl, trivial⟩ ⟨rfl, rfl, rfl, rfl, rfl, rfl, trivial⟩) ?_
            exact pq_le (by omega) (hx1 hq.symm)
      · rw [h2, cond_false] at hq
        refine pq_s hB 1 (pc' := 39) (L' := [(5, .int ((xsB.getD 0 []).getD (x4).toNatClampNeg 0)), (0, .ref 8), (1, .int x1), (2, .int x2), (3, .int x3), (4, .int x4)]) (st' := [.int x3]) (I' := I) (J' := J) (by with_unfolding_all rfl) ?_
        refine pq_ifn hB rfl (fun h5 => ?_) (fun h5 => ?_)
        · rw [h5, cond_true] at hq
          refine pq_s hB 6 (pc' := 12) (L' := [(4, .int (x4 + 1)), (2, .int (x2 + 1)), (3, .int 0), (5, .int ((xsB.getD 0 []).getD (x4).toNatClampNeg 0)), (0, .ref 8), (1, .int x1)]) (st' := []) (I' := I) (J' := J) (by with_unfolding_all rfl) ?_
          refine pq_perm (L := [(0, .ref 8), (1, .int x1), (2, .int (x2 + 1)), (3, .int 0), (4, .int (x4 + 1))]) (leqn_of ⟨rfl, rfl, rfl, rfl, rfl, trivial⟩ ⟨rfl, rfl, rfl, rfl, rfl, trivial⟩ ⟨rfl, rfl, rfl, rfl, rfl, rfl, trivial⟩) ?_
          exact f31_8_l12_pq hB k (by omega) b m (by omega) (by omega) hq hx0 hx1
        · rw [h5, cond_false] at hq
          refine pq_s hB 3 (pc' := 47) (L' := [(5, .int ((xsB.getD 0 []).getD (x4).toNatClampNeg 0)), (0, .ref 8), (1, .int x1), (2, .int x2), (3, .int x3), (4, .int x4)]) (st' := [.int (I 8 4), .int x2]) (I' := I) (J' := J) (by with_unfolding_all rfl) ?_
          refine pq_icn hB rfl (fun h6 => ?_) (fun h6 => ?_)
          · rw [h6, cond_true] at hq
            refine pq_s hB 6 (pc' := 12) (L' := [(4, .int (x4 + 1)), (2, .int (x2 + 1)), (3, .int 0), (5, .int ((xsB.getD 0 []).getD (x4).toNatClampNeg 0)), (0, .ref 8), (1, .int x1)]) (st' := []) (I' := I) (J' := J) (by with_unfolding_all rfl) ?_
            refine pq_perm (L := [(0, .ref 8), (1, .int x1), (2, .int (x2 + 1)), (3, .int 0), (4, .int (x4 + 1))]) (leqn_of ⟨rfl, rfl, rfl, rfl, rfl, trivial⟩ ⟨rfl, rfl, rfl, rfl, rfl, trivial⟩ ⟨rfl, rfl, rfl, rfl, rfl, rfl, trivial⟩) ?_
            exact f31_8_l12_pq hB k (by omega) b m (by omega) (by omega) hq hx0 hx1
          · rw [h6, cond_false] at hq
            refine pq_s hB 5 (pc' := 58) (L' := [(5, .int ((xsB.getD 0 []).getD (x4).toNatClampNeg 0)), (0, .ref 8), (1, .int x1), (2, .int x2), (3, .int x3), (4, .int x4)]) (st' := [.int ((xsB.getD 0 []).getD (x4).toNatClampNeg 0), .int (I 9 (x2).toNatClampNeg)]) (I' := I) (J' := J) (by with_unfolding_all rfl) ?_
            refine pq_icn hB rfl (fun h7 => ?_) (fun h7 => ?_)
            · rw [h7, cond_true] at hq
              refine pq_s hB 6 (pc' := 12) (L' := [(4, .int (x4 + 1)), (2, .int (x2 + 1)), (3, .int 0), (5, .int ((xsB.getD 0 []).getD (x4).toNatClampNeg 0)), (0, .ref 8), (1, .int x1)]) (st' := []) (I' := I) (J' := J) (by with_unfolding_all rfl) ?_
              refine pq_perm (L := [(0, .ref 8), (1, .int x1), (2, .int (x2 + 1)), (3, .int 0), (4, .int (x4 + 1))]) (leqn_of ⟨rfl, rfl, rfl, rfl, rfl, trivial⟩ ⟨rfl, rfl, rfl, rfl, rfl, trivial⟩ ⟨rfl, rfl, rfl, rfl, rfl, rfl, trivial⟩) ?_
              exact f31_8_l12_pq hB k (by omega) b m (by omega) (by omega) hq hx0 hx1
            · rw [h7, cond_false] at hq
              refine pq_s hB 7 (pc' := 12) (L' := [(4, .int (x4 + 1)), (2, .int (x2 + 1)), (3, .int 1), (5, .int ((xsB.getD 0 []).getD (x4).toNatClampNeg 0)), (0, .ref 8), (1, .int x1)]) (st' := []) (I' := I) (J' := J) (by with_unfolding_all rfl) ?_
              refine pq_perm (L := [(0, .ref 8), (1, .int x1), (2, .int (x2 + 1)), (3, .int 1), (4, .int (x4 + 1))]) (leqn_of ⟨rfl, rfl, rfl, rfl, rfl, trivial⟩ ⟨rfl, rfl, rfl, rfl, rfl, trivial⟩ ⟨rfl, rfl, rfl, rfl, rfl, rfl, trivial⟩) ?_
              exact f31_8_l12_pq hB k (by omega) b m (by omega) (by omega) hq hx0 hx1
-- LP$Reader.wordNumber
def f31_8 (N : Nat) (I : tI) (J : tJ) : Option (Int32 × tI × tJ) :=
  (match f31_8_l12 N N I J 0 (I 8 3) 1 0 with | none => none | some (k1, y1_1, y1_2, y1_3, y1_4, I1, J1) => bif Nat.beq k1 0 then (some ((-1), I1, J1)) else some (y1_1, I1, J1))
set_option maxRecDepth 100000 in
theorem f31_8_pq {sc : List Int32} {B : xM} {N : Nat} {I : tI} {J : tJ} (hB : kB pT B) : ∀ {X : Option (Int32 × tI × tJ)}, f31_8 N I J = X → pq sc B N (xt_31, 6, 1) 0 [(0, .ref 8)] [] I J (fun v I1 J1 => ∃ a, v = some (.int a) ∧ X = some (a, I1, J1)) := by
  intro X hq
  unfold f31_8 at hq
  have hle : N ≤ N := Nat.le_refl N
  refine pq_s hB 9 (pc' := 12) (L' := [(4, .int 0), (3, .int 1), (2, .int (I 8 3)), (1, .int 0), (0, .ref 8)]) (st' := []) (I' := I) (J' := J) (by with_unfolding_all rfl) ?_
  refine pq_perm (L := [(0, .ref 8), (1, .int 0), (2, .int (I 8 3)), (3, .int 1), (4, .int 0)]) (leqn_of ⟨rfl, rfl, rfl, rfl, rfl, trivial⟩ ⟨rfl, rfl, rfl, rfl, rfl, trivial⟩ ⟨rfl, rfl, rfl, rfl, rfl, trivial⟩) ?_
  refine f31_8_l12_pq hB N (Nat.le_refl N) N N hle (Nat.le_refl N) rfl ?_ ?_
  ·
    intro y1_1 y1_2 y1_3 y1_4 I1 J1 hc1
    rw [hc1] at hq
    dsimp only at hq
    rw [show Nat.beq 0 0 = true from rfl, cond_true] at hq
    refine pq_s hB 1 (pc' := 104) (L' := [(0, .ref 8), (1, .int y1_1), (2, .int y1_2), (3, .int y1_3), (4, .int y1_4)]) (st' := [.int (-1)]) (I' := I1) (J' := J1) (by with_unfolding_all rfl) ?_
    subst hq
    exact pq_2i (x := (-1)) rfl ⟨_, rfl, rfl⟩
  ·
    intro y1_1 y1_2 y1_3 y1_4 I1 J1 hc1
    rw [hc1] at hq
    dsimp only at hq
    rw [show Nat.beq 1 0 = false from rfl, cond_false] at hq
    refine pq_s hB 1 (pc' := 86) (L' := [(0, .ref 8), (1, .int y1_1), (2, .int y1_2), (3, .int y1_3), (4, .int y1_4)]) (st' := [.int y1_1]) (I' := I1) (J' := J1) (by with_unfolding_all rfl) ?_
    subst hq
    exact pq_2i (x := y1_1) rfl ⟨_, rfl, rfl⟩
-- LP$Reader.advance, from 60 on
def f25_8_j60 (N : Nat) (I : tI) (J : tJ) : Option (Unit × tI × tJ) :=
  bif xcmp .lt (I 8 3) (I 8 1) then (match f26_8 (tup (tup (tup I 8 4 (I 8 3)) 8 5 (-1)) 8 7 0) (tup J 8 6 0) (I 8 3) with | (v3, I3, J3) => bif xcmp .eq v3 0 then (match f27_8 I3 J3 (I3 8 3) with | (v5, I5, J5) => bif xcmp .eq v5 0 then (match f30_8 I5 J5 with | (_, I7, J7) => some ((), I7, J7)) else (match f29_8 N I5 J5 with | none => none | some (_, I8, J8) => some ((), I8, J8))) else (match f28_8 N I3 J3 with | none => none | some (_, I9, J9) => (match f31_8 N I9 J9 with | none => none | some (v10, I10, J10) => some ((), (tup I10 8 5 v10), J10)))) else some ((), (tup (tup (tup (tup I 8 4 (I 8 3)) 8 5 (-1)) 8 7 0) 8 2 0), (tup J 8 6 0))
set_option maxRecDepth 100000 in
theorem f25_8_j60_pq {sc : List Int32} {B : xM} {N : Nat} {I : tI} {J : tJ} (hB : kB pT B) : ∀ {X : Option (Unit × tI × tJ)}, f25_8_j60 N I J = X → pq sc B N (xt_25, 1, 0) 60 [(0, .ref 8)] [] I J (fun v I1 J1 => v = none ∧ X = some ((), I1, J1)) := by
  intro X hq
  unfold f25_8_j60 at hq
  have hle : N ≤ N := Nat.le_refl N
  refine pq_s hB 17 (pc' := 91) (L' := [(0, .ref 8)]) (st' := [.int (I 8 1), .int (I 8 3)]) (I' := (tup (tup (tup I 8 4 (I 8 3)) 8 5 (-1)) 8 7 0)) (J' := (tup J 8 6 0)) (by with_unfolding_all rfl) ?_
  refine pq_icn hB rfl (fun h2 => ?_) (fun h2 => ?_)
  · rw [h2, cond_true] at hq
    refine pq_s hB 3 (pc' := 107) (L' := [(0, .ref 8)]) (st' := [.int (I 8 3), .ref 8]) (I' := (tup (tup (tup I 8 4 (I 8 3)) 8 5 (-1)) 8 7 0)) (J' := (tup J 8 6 0)) (by with_unfolding_all rfl) ?_
    generalize hc3 : f26_8 (tup (tup (tup I 8 4 (I 8 3)) 8 5 (-1)) 8 7 0) (tup J 8 6 0) (I 8 3) = q3 at hq
    obtain ⟨v3, _, _⟩ := q3
    dsimp only at hq
    refine pq_1 rfl rfl rfl rfl (f26_8_pq hB hc3) ?_
    rintro _ I3 J3 ⟨rfl, rfl, rfl⟩
    refine pq_ifn hB rfl (fun h4 => ?_) (fun h4 => ?_)
    · rw [h4, cond_true] at hq
      refine pq_s hB 3 (pc' := 133) (L' := [(0, .ref 8)]) (st' := [.int (I3 8 3), .ref 8]) (I' := I3) (J' := J3) (by with_unfolding_all rfl) ?_
      generalize hc5 : f27_8 I3 J3 (I3 8 3) = q5 at hq
      obtain ⟨v5, _, _⟩ := q5
      dsimp only at hq
      refine pq_1 rfl rfl rfl rfl (f27_8_pq hB hc5) ?_
      rintro _ I5 J5 ⟨rfl, rfl, rfl⟩
      refine pq_ifn hB rfl (fun h6 => ?_) (fun h6 => ?_)
      · rw [h6, cond_true] at hq
        refine pq_s hB 1 (pc' := 147) (L' := [(0, .ref 8)]) (st' := [.ref 8]) (I' := I5) (J' := J5) (by with_unfolding_all rfl) ?_
        generalize hc7 : f30_8 I5 J5 = q7 at hq
        obtain ⟨v7, _, _⟩ := q7
        dsimp only at hq
        refine pq_1 rfl rfl rfl rfl (f30_8_pq hB hc7) ?_
        rintro _ I7 J7 ⟨rfl, rfl, rfl⟩
        subst hq
        exact pq_2 (v := none) rfl rfl (by with_unfolding_all rfl) ⟨rfl, rfl⟩
      · rw [h6, cond_false] at hq
        refine pq_s hB 1 (pc' := 140) (L' := [(0, .ref 8)]) (st' := [.ref 8]) (I' := I5) (J' := J5) (by with_unfolding_all rfl) ?_
        refine pq_1 rfl rfl rfl rfl (pq_le hle (f29_8_pq hB rfl)) ?_
        rintro _ I8 J8 ⟨rfl, hc8⟩
        rw [hc8] at hq
        dsimp only at hq
        refine pq_s hB 1 (pc' := 150) (L' := [(0, .ref 8)]) (st' := []) (I' := I8) (J' := J8) (by with_unfolding_all rfl) ?_
        subst hq
        exact pq_2 (v := none) rfl rfl (by with_unfolding_all rfl) ⟨rfl, rfl⟩
    · rw [h4, cond_false] at hq
      refine pq_s hB 1 (pc' := 114) (L' := [(0, .ref 8)]) (st' := [.ref 8]) (I' := I3) (J' := J3) (by with_unfolding_all rfl) ?_
      refine pq_1 rfl rfl rfl rfl (pq_le hle (f28_8_pq hB rfl)) ?_
      rintro _ I9 J9 ⟨rfl, hc9⟩
      rw [hc9] at hq
      dsimp only at hq
      refine pq_s hB 2 (pc' := 119) (L' := [(0, .ref 8)]) (st' := [.ref 8, .ref 8]) (I' := I9) (J' := J9) (by with_unfolding_all rfl) ?_
      refine pq_1 rfl rfl rfl rfl (pq_le hle (f31_8_pq hB rfl)) ?_
      rintro _ I10 J10 ⟨v10, rfl, hc10⟩
      rw [hc10] at hq
      dsimp only at hq
      refine pq_s hB 2 (pc' := 150) (L' := [(0, .ref 8)]) (st' := []) (I' := (tup I10 8 5 v10)) (J' := J10) (by with_unfolding_all rfl) ?_
      subst hq
      exact pq_2 (v := none) rfl rfl (by with_unfolding_all rfl) ⟨rfl, rfl⟩
  · rw [h2, cond_false] at hq
    refine pq_s hB 4 (pc' := 150) (L' := [(0, .ref 8)]) (st' := []) (I' := (tup (tup (tup (tup I 8 4 (I 8 3)) 8 5 (-1)) 8 7 0) 8 2 0)) (J' := (tup J 8 6 0)) (by with_unfolding_all rfl) ?_
    subst hq
    exact pq_2 (v := none) rfl rfl (by with_unfolding_all rfl) ⟨rfl, rfl⟩
-- LP$Reader.advance
def f25_8 (N : Nat) (I : tI) (J : tJ) : Option (Unit × tI × tJ) :=
  (match f25_8_l8 N N (tup I 8 3 (I 8 4)) J with | none => none | some (I1, J1) => f25_8_j60 N I1 J1)
set_option maxRecDepth 100000 in
theorem f25_8_pq {sc : List Int32} {B : xM} {N : Nat} {I : tI} {J : tJ} (hB : kB pT B) : ∀ {X : Option (Unit × tI × tJ)}, f25_8 N I J = X → pq sc B N (xt_25, 1, 0) 0 [(0, .ref 8)] [] I J (fun v I1 J1 => v = none ∧ X = some ((), I1, J1)) := by
  intro X hq
  unfold f25_8 at hq
  have hle : N ≤ N := Nat.le_refl N
  refine pq_s hB 4 (pc' := 8) (L' := [(0, .ref 8)]) (st' := []) (I' := (tup I 8 3 (I 8 4))) (J' := J) (by with_unfolding_all rfl) ?_
  refine f25_8_l8_pq hB N (Nat.le_refl N) N N hle (Nat.le_refl N) rfl ?_
  intro I1 J1 hc1
  rw [hc1] at hq
  dsimp only at hq
  exact f25_8_j60_pq hB hq
-- LP$Reader.open
def f24_8 (N : Nat) (I : tI) (J : tJ) (a0 : Int32) : Option (Unit × tI × tJ) :=
  (match f25_8 N (tup (tup (tup (tup I 8 1 (if 900 < a0 then 900 else a0)) 8 4 0) 8 9 0) 8 10 (-1)) J with | none => none | some (_, I1, J1) => some ((), I1, J1))
set_option maxRecDepth 100000 in
theorem f24_8_pq {sc : List Int32} {B : xM} {N : Nat} {I : tI} {J : tJ} {a0 : Int32} (hB : kB pT B) : ∀ {X : Option (Unit × tI × tJ)}, f24_8 N I J a0 = X → pq sc B N (xt_24, 2, 0) 0 [(0, .ref 8), (1, .int a0)] [] I J (fun v I1 J1 => v = none ∧ X = some ((), I1, J1)) := by
  intro X hq
  unfold f24_8 at hq
  have hle : N ≤ N := Nat.le_refl N
  refine pq_s hB 15 (pc' := 27) (L' := [(0, .ref 8), (1, .int a0)]) (st' := [.ref 8]) (I' := (tup (tup (tup (tup I 8 1 (if 900 < a0 then 900 else a0)) 8 4 0) 8 9 0) 8 10 (-1))) (J' := J) (by with_unfolding_all rfl) ?_
  refine pq_1 rfl rfl rfl rfl (pq_le hle (f25_8_pq hB rfl)) ?_
  rintro _ I1 J1 ⟨rfl, hc1⟩
  rw [hc1] at hq
  dsimp only at hq
  subst hq
  exact pq_2 (v := none) rfl rfl (by with_unfolding_all rfl) ⟨rfl, rfl⟩
-- LP$Reader.isAtEnd
def f32_8 (I : tI) (J : tJ) : Int32 × tI × tJ :=
  bif xcmp .ne (I 8 2) 0 then (0, I, J) else (1, I, J)
set_option maxRecDepth 100000 in
theorem f32_8_pq {sc : List Int32} {B : xM} {n : Nat} {I : tI} {J : tJ} (hB : kB pT B) : ∀ {q : Int32 × tI × tJ}, f32_8 I J = q → pq sc B n (xt_32, 1, 3) 0 [(0, .ref 8)] [] I J (fun v I1 J1 => v = some (.int q.1) ∧ I1 = q.2.1 ∧ J1 = q.2.2) := by
  intro q hq
  unfold f32_8 at hq
  refine pq_s hB 2 (pc' := 4) (L' := [(0, .ref 8)]) (st' := [.int (I 8 2)]) (I' := I) (J' := J) (by with_unfolding_all rfl) ?_
  refine pq_ifn hB rfl (fun h1 => ?_) (fun h1 => ?_)
  · rw [h1, cond_true] at hq
    refine pq_s hB 1 (pc' := 12) (L' := [(0, .ref 8)]) (st' := [.int 0]) (I' := I) (J' := J) (by with_unfolding_all rfl) ?_
    subst hq
    exact pq_2i (x := 0) rfl ⟨rfl, rfl, rfl⟩
  · rw [h1, cond_false] at hq
    refine pq_s hB 2 (pc' := 12) (L' := [(0, .ref 8)]) (st' := [.int 1]) (I' := I) (J' := J) (by with_unfolding_all rfl) ?_
    subst hq
    exact pq_2i (x := 1) rfl ⟨rfl, rfl, rfl⟩
-- LP$SceneReader.hasSize
def f76_35 (I : tI) (J : tJ) : Int32 × tI × tJ :=
  bif xcmp .le (I 37 0) 0 then (0, I, J) else (1, I, J)
set_option maxRecDepth 100000 in
theorem f76_35_pq {sc : List Int32} {B : xM} {n : Nat} {I : tI} {J : tJ} (hB : kB pT B) : ∀ {q : Int32 × tI × tJ}, f76_35 I J = q → pq sc B n (xt_76, 1, 3) 0 [(0, .ref 35)] [] I J (fun v I1 J1 => v = some (.int q.1) ∧ I1 = q.2.1 ∧ J1 = q.2.2) := by
  intro q hq
  unfold f76_35 at hq
  refine pq_s hB 4 (pc' := 10) (L' := [(0, .ref 35)]) (st' := [.int (I 37 0)]) (I' := I) (J' := J) (by with_unfolding_all rfl) ?_
  refine pq_ifn hB rfl (fun h1 => ?_) (fun h1 => ?_)
  · rw [h1, cond_true] at hq
    refine pq_s hB 1 (pc' := 18) (L' := [(0, .ref 35)]) (st' := [.int 0]) (I' := I) (J' := J) (by with_unfolding_all rfl) ?_
    subst hq
    exact pq_2i (x := 0) rfl ⟨rfl, rfl, rfl⟩
  · rw [h1, cond_false] at hq
    refine pq_s hB 2 (pc' := 18) (L' := [(0, .ref 35)]) (st' := [.int 1]) (I' := I) (J' := J) (by with_unfolding_all rfl) ?_
    subst hq
    exact pq_2i (x := 1) rfl ⟨rfl, rfl, rfl⟩
-- LP$Reader.wrong
def f33_8 (I : tI) (J : tJ) (a0 : Int32) : Int32 × tI × tJ :=
  bif xcmp .ne (I 8 2) 4 then (0, (tup (tup I 8 9 a0) 8 10 (I 8 3)), J) else (0, (tup (tup I 8 9 1) 8 10 (I 8 3)), J)
set_option maxRecDepth 100000 in
theorem f33_8_pq {sc : List Int32} {B : xM} {n : Nat} {I : tI} {J : tJ} {a0 : Int32} (hB : kB pT B) : ∀ {q : Int32 × tI × tJ}, f33_8 I J a0 = q → pq sc B n (xt_33, 2, 3) 0 [(0, .ref 8), (1, .int a0)] [] I J (fun v I1 J1 => v = some (.int q.1) ∧ I1 = q.2.1 ∧ J1 = q.2.2) := by
  intro q hq
  unfold f33_8 at hq
  refine pq_s hB 4 (pc' := 6) (L' := [(0, .ref 8), (1, .int a0)]) (st' := [.int 4, .int (I 8 2), .ref 8]) (I' := I) (J' := J) (by with_unfolding_all rfl) ?_
  refine pq_icn hB rfl (fun h1 => ?_) (fun h1 => ?_)
  · rw [h1, cond_true] at hq
    refine pq_s hB 7 (pc' := 26) (L' := [(0, .ref 8), (1, .int a0)]) (st' := [.int 0]) (I' := (tup (tup I 8 9 a0) 8 10 (I 8 3))) (J' := J) (by with_unfolding_all rfl) ?_
    subst hq
    exact pq_2i (x := 0) rfl ⟨rfl, rfl, rfl⟩
  · rw [h1, cond_false] at hq
    refine pq_s hB 8 (pc' := 26) (L' := [(0, .ref 8), (1, .int a0)]) (st' := [.int 0]) (I' := (tup (tup I 8 9 1) 8 10 (I 8 3))) (J' := J) (by with_unfolding_all rfl) ?_
    subst hq
    exact pq_2i (x := 0) rfl ⟨rfl, rfl, rfl⟩
-- LP$Reader.isNumber
def f37_8 (I : tI) (J : tJ) (a0 : Int32) (a1 : Int32) : Int32 × tI × tJ :=
  bif xcmp .eq (I 8 2) 2 then (match f127 I J (I 8 7) a0 a1 with | (v2, I2, J2) => bif xcmp .ne v2 0 then (1, I2, J2) else (match f33_8 I2 J2 4 with | (v4, I4, J4) => bif xcmp .eq v4 0 then (0, I4, J4) else (1, I4, J4))) else (match f33_8 I J 2 with | (v6, I6, J6) => (v6, I6, J6))
set_option maxRecDepth 100000 in
theorem f37_8_pq {sc : List Int32} {B : xM} {n : Nat} {I : tI} {J : tJ} {a0 : Int32} {a1 : Int32} (hB : kB pT B) : ∀ {q : Int32 × tI × tJ}, f37_8 I J a0 a1 = q → pq sc B n (xt_37, 3, 3) 0 [(0, .ref 8), (1, .int a0), (2, .int a1)] [] I J (fun v I1 J1 => v = some (.int q.1) ∧ I1 = q.2.1 ∧ J1 = q.2.2) := by
  intro q hq
  unfold f37_8 at hq
  refine pq_s hB 3 (pc' := 5) (L' := [(0, .ref 8), (1, .int a0), (2, .int a1)]) (st' := [.int 2, .int (I 8 2)]) (I' := I) (J' := J) (by with_unfolding_all rfl) ?_
  refine pq_icn hB rfl (fun h1 => ?_) (fun h1 => ?_)
  · rw [h1, cond_true] at hq
    refine pq_s hB 4 (pc' := 20) (L' := [(0, .ref 8), (1, .int a0), (2, .int a1)]) (st' := [.int a1, .int a0, .int (I 8 7)]) (I' := I) (J' := J) (by with_unfolding_all rfl) ?_
    generalize hc2 : f127 I J (I 8 7) a0 a1 = q2 at hq
    obtain ⟨v2, _, _⟩ := q2
    dsimp only at hq
    refine pq_1 rfl rfl rfl rfl (f127_pq hB hc2) ?_
    rintro _ I2 J2 ⟨rfl, rfl, rfl⟩
    refine pq_ifn hB rfl (fun h3 => ?_) (fun h3 => ?_)
    · rw [h3, cond_true] at hq
      refine pq_s hB 2 (pc' := 39) (L' := [(0, .ref 8), (1, .int a0), (2, .int a1)]) (st' := [.int 1]) (I' := I2) (J' := J2) (by with_unfolding_all rfl) ?_
      subst hq
      exact pq_2i (x := 1) rfl ⟨rfl, rfl, rfl⟩
    · rw [h3, cond_false] at hq
      refine pq_s hB 2 (pc' := 28) (L' := [(0, .ref 8), (1, .int a0), (2, .int a1)]) (st' := [.int 4, .ref 8]) (I' := I2) (J' := J2) (by with_unfolding_all rfl) ?_
      generalize hc4 : f33_8 I2 J2 4 = q4 at hq
      obtain ⟨v4, _, _⟩ := q4
      dsimp only at hq
      refine pq_1 rfl rfl rfl rfl (f33_8_pq hB hc4) ?_
      rintro _ I4 J4 ⟨rfl, rfl, rfl⟩
      refine pq_ifn hB rfl (fun h5 => ?_) (fun h5 => ?_)
      · rw [h5, cond_true] at hq
        refine pq_s hB 1 (pc' := 39) (L' := [(0, .ref 8), (1, .int a0), (2, .int a1)]) (st' := [.int 0]) (I' := I4) (J' := J4) (by with_unfolding_all rfl) ?_
        subst hq
        exact pq_2i (x := 0) rfl ⟨rfl, rfl, rfl⟩
      · rw [h5, cond_false] at hq
        refine pq_s hB 2 (pc' := 39) (L' := [(0, .ref 8), (1, .int a0), (2, .int a1)]) (st' := [.int 1]) (I' := I4) (J' := J4) (by with_unfolding_all rfl) ?_
        subst hq
        exact pq_2i (x := 1) rfl ⟨rfl, rfl, rfl⟩
  · rw [h1, cond_false] at hq
    refine pq_s hB 2 (pc' := 10) (L' := [(0, .ref 8), (1, .int a0), (2, .int a1)]) (st' := [.int 2, .ref 8]) (I' := I) (J' := J) (by with_unfolding_all rfl) ?_
    generalize hc6 : f33_8 I J 2 = q6 at hq
    obtain ⟨v6, _, _⟩ := q6
    dsimp only at hq
    refine pq_1 rfl rfl rfl rfl (f33_8_pq hB hc6) ?_
    rintro _ I6 J6 ⟨rfl, rfl, rfl⟩
    subst hq
    exact pq_2i (x := v6) rfl ⟨rfl, rfl, rfl⟩
-- LP$Reader.passWord
def f34_8 (N : Nat) (I : tI) (J : tJ) (a0 : Int32) : Option (Int32 × tI × tJ) :=
  bif xcmp .eq (I 8 5) a0 then (match f25_8 N I J with | none => none | some (_, I2, J2) => some (1, I2, J2)) else (match f33_8 I J 2 with | (v3, I3, J3) => some (v3, I3, J3))
set_option maxRecDepth 100000 in
theorem f34_8_pq {sc : List Int32} {B : xM} {N : Nat} {I : tI} {J : tJ} {a0 : Int32} (hB : kB pT B) : ∀ {X : Option (Int32 × tI × tJ)}, f34_8 N I J a0 = X → pq sc B N (xt_34, 2, 3) 0 [(0, .ref 8), (1, .int a0)] [] I J (fun v I1 J1 => ∃ a, v = some (.int a) ∧ X = some (a, I1, J1)) := by
  intro X hq
  unfold f34_8 at hq
  have hle : N ≤ N := Nat.le_refl N
  refine pq_s hB 3 (pc' := 5) (L' := [(0, .ref 8), (1, .int a0)]) (st' := [.int a0, .int (I 8 5)]) (I' := I) (J' := J) (by with_unfolding_all rfl) ?_
  refine pq_icn hB rfl (fun h1 => ?_) (fun h1 => ?_)
  · rw [h1, cond_true] at hq
    refine pq_s hB 1 (pc' := 15) (L' := [(0, .ref 8), (1, .int a0)]) (st' := [.ref 8]) (I' := I) (J' := J) (by with_unfolding_all rfl) ?_
    refine pq_1 rfl rfl rfl rfl (pq_le hle (f25_8_pq hB rfl)) ?_
    rintro _ I2 J2 ⟨rfl, hc2⟩
    rw [hc2] at hq
    dsimp only at hq
    refine pq_s hB 1 (pc' := 19) (L' := [(0, .ref 8), (1, .int a0)]) (st' := [.int 1]) (I' := I2) (J' := J2) (by with_unfolding_all rfl) ?_
    subst hq
    exact pq_2i (x := 1) rfl ⟨_, rfl, rfl⟩
  · rw [h1, cond_false] at hq
    refine pq_s hB 2 (pc' := 10) (L' := [(0, .ref 8), (1, .int a0)]) (st' := [.int 2, .ref 8]) (I' := I) (J' := J) (by with_unfolding_all rfl) ?_
    generalize hc3 : f33_8 I J 2 = q3 at hq
    obtain ⟨v3, _, _⟩ := q3
    dsimp only at hq
    refine pq_1 rfl rfl rfl rfl (f33_8_pq hB hc3) ?_
    rintro _ I3 J3 ⟨rfl, rfl, rfl⟩
    subst hq
    exact pq_2i (x := v3) rfl ⟨_, rfl, rfl⟩
-- LP$Reader.passClose
def f35_8 (N : Nat) (I : tI) (J : tJ) : Option (Int32 × tI × tJ) :=
  bif xcmp .ne (I 8 2) 3 then (match f33_8 I J 2 with | (v2, I2, J2) => some (v2, I2, J2)) else bif xcmp .eq (I 8 7) 59 then (match f25_8 N I J with | none => none | some (_, I4, J4) => some (1, I4, J4)) else (match f33_8 I J 2 with | (v5, I5, J5) => some (v5, I5, J5))
set_option maxRecDepth 100000 in
theorem f35_8_pq {sc : List Int32} {B : xM} {N : Nat} {I : tI} {J : tJ} (hB : kB pT B) : ∀ {X : Option (Int32 × tI × tJ)}, f35_8 N I J = X → pq sc B N (xt_35, 1, 3) 0 [(0, .ref 8)] [] I J (fun v I1 J1 => ∃ a, v = some (.int a) ∧ X = some (a, I1, J1)) := by
  intro X hq
  unfold f35_8 at hq
  have hle : N ≤ N := Nat.le_refl N
  refine pq_s hB 3 (pc' := 5) (L' := [(0, .ref 8)]) (st' := [.int 3, .int (I 8 2)]) (I' := I) (J' := J) (by with_unfolding_all rfl) ?_
  refine pq_icn hB rfl (fun h1 => ?_) (fun h1 => ?_)
  · rw [h1, cond_true] at hq
    refine pq_s hB 2 (pc' := 19) (L' := [(0, .ref 8)]) (st' := [.int 2, .ref 8]) (I' := I) (J' := J) (by with_unfolding_all rfl) ?_
    generalize hc2 : f33_8 I J 2 = q2 at hq
    obtain ⟨v2, _, _⟩ := q2
    dsimp only at hq
    refine pq_1 rfl rfl rfl rfl (f33_8_pq hB hc2) ?_
    rintro _ I2 J2 ⟨rfl, rfl, rfl⟩
    subst hq
    exact pq_2i (x := v2) rfl ⟨_, rfl, rfl⟩
  · rw [h1, cond_false] at hq
    refine pq_s hB 3 (pc' := 14) (L' := [(0, .ref 8)]) (st' := [.int 59, .int (I 8 7)]) (I' := I) (J' := J) (by with_unfolding_all rfl) ?_
    refine pq_icn hB rfl (fun h3 => ?_) (fun h3 => ?_)
    · rw [h3, cond_true] at hq
      refine pq_s hB 1 (pc' := 24) (L' := [(0, .ref 8)]) (st' := [.ref 8]) (I' := I) (J' := J) (by with_unfolding_all rfl) ?_
      refine pq_1 rfl rfl rfl rfl (pq_le hle (f25_8_pq hB rfl)) ?_
      rintro _ I4 J4 ⟨rfl, hc4⟩
      rw [hc4] at hq
      dsimp only at hq
      refine pq_s hB 1 (pc' := 28) (L' := [(0, .ref 8)]) (st' := [.int 1]) (I' := I4) (J' := J4) (by with_unfolding_all rfl) ?_
      subst hq
      exact pq_2i (x := 1) rfl ⟨_, rfl, rfl⟩
    · rw [h3, cond_false] at hq
      refine pq_s hB 2 (pc' := 19) (L' := [(0, .ref 8)]) (st' := [.int 2, .ref 8]) (I' := I) (J' := J) (by with_unfolding_all rfl) ?_
      generalize hc5 : f33_8 I J 2 = q5 at hq
      obtain ⟨v5, _, _⟩ := q5
      dsimp only at hq
      refine pq_1 rfl rfl rfl rfl (f33_8_pq hB hc5) ?_
      rintro _ I5 J5 ⟨rfl, rfl, rfl⟩
      subst hq
      exact pq_2i (x := v5) rfl ⟨_, rfl, rfl⟩
-- LP$SceneReader.readSize
def f77_35 (N : Nat) (I : tI) (J : tJ) : Option (Int32 × tI × tJ) :=
  (match f76_35 I J with | (v1, I1, J1) => bif xcmp .eq v1 0 then (match f25_8 N I1 J1 with | none => none | some (_, I3, J3) => (match f37_8 I3 J3 1 6 with | (v4, I4, J4) => bif xcmp .ne v4 0 then (match f25_8 N I4 J4 with | none => none | some (_, I6, J6) => (match f34_8 N I6 J6 1 with | none => none | some (v7, I7, J7) => bif xcmp .eq v7 0 then some (0, I7, J7) else (match f37_8 I7 J7 1 5 with | (v9, I9, J9) => bif xcmp .ne v9 0 then (match f25_8 N (tup (tup I9 37 0 (I4 8 7)) 37 1 (I9 8 7)) J9 with | none => none | some (_, I11, J11) => (match f35_8 N I11 J11 with | none => none | some (v12, I12, J12) => some (v12, I12, J12))) else some (0, I9, J9)))) else some (0, I4, J4))) else (match f33_8 I1 J1 5 with | (v13, I13, J13) => some (v13, I13, J13)))
set_option maxRecDepth 100000 in
theorem f77_35_pq {sc : List Int32} {B : xM} {N : Nat} {I : tI} {J : tJ} (hB : kB pT B) : ∀ {X : Option (Int32 × tI × tJ)}, f77_35 N I J = X → pq sc B N (xt_77, 2, 3) 0 [(0, .ref 35)] [] I J (fun v I1 J1 => ∃ a, v = some (.int a) ∧ X = some (a, I1, J1)) := by
  intro X hq
  unfold f77_35 at hq
  have hle : N ≤ N := Nat.le_refl N
  refine pq_s hB 1 (pc' := 1) (L' := [(0, .ref 35)]) (st' := [.ref 35]) (I' := I) (J' := J) (by with_unfolding_all rfl) ?_
  generalize hc1 : f76_35 I J = q1 at hq
  obtain ⟨v1, _, _⟩ := q1
  dsimp only at hq
  refine pq_1 rfl rfl rfl rfl (f76_35_pq hB hc1) ?_
  rintro _ I1 J1 ⟨rfl, rfl, rfl⟩
  refine pq_ifn hB rfl (fun h2 => ?_) (fun h2 => ?_)
  · rw [h2, cond_true] at hq
    refine pq_s hB 2 (pc' := 20) (L' := [(0, .ref 35)]) (st' := [.ref 8]) (I' := I1) (J' := J1) (by with_unfolding_all rfl) ?_
    refine pq_1 rfl rfl rfl rfl (pq_le hle (f25_8_pq hB rfl)) ?_
    rintro _ I3 J3 ⟨rfl, hc3⟩
    rw [hc3] at hq
    dsimp only at hq
    refine pq_s hB 4 (pc' := 30) (L' := [(0, .ref 35)]) (st' := [.int 6, .int 1, .ref 8]) (I' := I3) (J' := J3) (by with_unfolding_all rfl) ?_
    generalize hc4 : f37_8 I3 J3 1 6 = q4 at hq
    obtain ⟨v4, _, _⟩ := q4
    dsimp only at hq
    refine pq_1 rfl rfl rfl rfl (f37_8_pq hB hc4) ?_
    rintro _ I4 J4 ⟨rfl, rfl, rfl⟩
    refine pq_ifn hB rfl (fun h5 => ?_) (fun h5 => ?_)
    · rw [h5, cond_true] at hq
      refine pq_s hB 6 (pc' := 50) (L' := [(1, .int (I4 8 7)), (0, .ref 35)]) (st' := [.ref 8]) (I' := I4) (J' := J4) (by with_unfolding_all rfl) ?_
      refine pq_1 rfl rfl rfl rfl (pq_le hle (f25_8_pq hB rfl)) ?_
      rintro _ I6 J6 ⟨rfl, hc6⟩
      rw [hc6] at hq
      dsimp only at hq
      refine pq_s hB 3 (pc' := 58) (L' := [(1, .int (I4 8 7)), (0, .ref 35)]) (st' := [.int 1, .ref 8]) (I' := I6) (J' := J6) (by with_unfolding_all rfl) ?_
      refine pq_1 rfl rfl rfl rfl (pq_le hle (f34_8_pq hB rfl)) ?_
      rintro _ I7 J7 ⟨v7, rfl, hc7⟩
      rw [hc7] at hq
      dsimp only at hq
      refine pq_ifn hB rfl (fun h8 => ?_) (fun h8 => ?_)
      · rw [h8, cond_true] at hq
        refine pq_s hB 1 (pc' := 77) (L' := [(1, .int (I4 8 7)), (0, .ref 35)]) (st' := [.int 0]) (I' := I7) (J' := J7) (by with_unfolding_all rfl) ?_
        subst hq
        exact pq_2i (x := 0) rfl ⟨_, rfl, rfl⟩
      · rw [h8, cond_false] at hq
        refine pq_s hB 4 (pc' := 70) (L' := [(1, .int (I4 8 7)), (0, .ref 35)]) (st' := [.int 5, .int 1, .ref 8]) (I' := I7) (J' := J7) (by with_unfolding_all rfl) ?_
        generalize hc9 : f37_8 I7 J7 1 5 = q9 at hq
        obtain ⟨v9, _, _⟩ := q9
        dsimp only at hq
        refine pq_1 rfl rfl rfl rfl (f37_8_pq hB hc9) ?_
        rintro _ I9 J9 ⟨rfl, rfl, rfl⟩
        refine pq_ifn hB rfl (fun h10 => ?_) (fun h10 => ?_)
        · rw [h10, cond_true] at hq
          refine pq_s hB 14 (pc' := 110) (L' := [(1, .int (I4 8 7)), (0, .ref 35)]) (st' := [.ref 8]) (I' := (tup (tup I9 37 0 (I4 8 7)) 37 1 (I9 8 7))) (J' := J9) (by with_unfolding_all rfl) ?_
          refine pq_1 rfl rfl rfl rfl (pq_le hle (f25_8_pq hB rfl)) ?_
          rintro _ I11 J11 ⟨rfl, hc11⟩
          rw [hc11] at hq
          dsimp only at hq
          refine pq_s hB 2 (pc' := 117) (L' := [(1, .int (I4 8 7)), (0, .ref 35)]) (st' := [.ref 8]) (I' := I11) (J' := J11) (by with_unfolding_all rfl) ?_
          refine pq_1 rfl rfl rfl rfl (pq_le hle (f35_8_pq hB rfl)) ?_
          rintro _ I12 J12 ⟨v12, rfl, hc12⟩
          rw [hc12] at hq
          dsimp only at hq
          subst hq
          exact pq_2i (x := v12) rfl ⟨_, rfl, rfl⟩
        · rw [h10, cond_false] at hq
          refine pq_s hB 1 (pc' := 77) (L' := [(1, .int (I4 8 7)), (0, .ref 35)]) (st' := [.int 0]) (I' := I9) (J' := J9) (by with_unfolding_all rfl) ?_
          subst hq
          exact pq_2i (x := 0) rfl ⟨_, rfl, rfl⟩
    · rw [h5, cond_false] at hq
      refine pq_s hB 1 (pc' := 37) (L' := [(0, .ref 35)]) (st' := [.int 0]) (I' := I4) (J' := J4) (by with_unfolding_all rfl) ?_
      subst hq
      exact pq_2i (x := 0) rfl ⟨_, rfl, rfl⟩
  · rw [h2, cond_false] at hq
    refine pq_s hB 3 (pc' := 12) (L' := [(0, .ref 35)]) (st' := [.int 5, .ref 8]) (I' := I1) (J' := J1) (by with_unfolding_all rfl) ?_
    generalize hc13 : f33_8 I1 J1 5 = q13 at hq
    obtain ⟨v13, _, _⟩ := q13
    dsimp only at hq
    refine pq_1 rfl rfl rfl rfl (f33_8_pq hB hc13) ?_
    rintro _ I13 J13 ⟨rfl, rfl, rfl⟩
    subst hq
    exact pq_2i (x := v13) rfl ⟨_, rfl, rfl⟩
-- LP$SceneReader.readPrice
def f78_35 (N : Nat) (I : tI) (J : tJ) : Option (Int32 × tI × tJ) :=
  bif xcmp .eq (I 35 2) 0 then (match f25_8 N I J with | none => none | some (_, I2, J2) => (match f37_8 I2 J2 0 99 with | (v3, I3, J3) => bif xcmp .ne v3 0 then (match f25_8 N (tup I3 36 4 (I3 8 7)) J3 with | none => none | some (_, I5, J5) => (match f34_8 N I5 J5 3 with | none => none | some (v6, I6, J6) => bif xcmp .eq v6 0 then some (0, I6, J6) else (match f37_8 I6 J6 0 20 with | (v8, I8, J8) => bif xcmp .ne v8 0 then (match f25_8 N (tup (tup I8 36 5 (I8 8 7)) 35 2 1) J8 with | none => none | some (_, I10, J10) => (match f35_8 N I10 J10 with | none => none | some (v11, I11, J11) => some (v11, I11, J11))) else some (0, I8, J8)))) else some (0, I3, J3))) else (match f33_8 I J 5 with | (v12, I12, J12) => some (v12, I12, J12))
set_option maxRecDepth 100000 in
theorem f78_35_pq {sc : List Int32} {B : xM} {N : Nat} {I : tI} {J : tJ} (hB : kB pT B) : ∀ {X : Option (Int32 × tI × tJ)}, f78_35 N I J = X → pq sc B N (xt_78, 1, 3) 0 [(0, .ref 35)] [] I J (fun v I1 J1 => ∃ a, v = some (.int a) ∧ X = some (a, I1, J1)) := by
  intro X hq
  unfold f78_35 at hq
  have hle : N ≤ N := Nat.le_refl N
  refine pq_s hB 2 (pc' := 4) (L' := [(0, .ref 35)]) (st' := [.int (I 35 2)]) (I' := I) (J' := J) (by with_unfolding_all rfl) ?_
  refine pq_ifn hB rfl (fun h1 => ?_) (fun h1 => ?_)
  · rw [h1, cond_true] at hq
    refine pq_s hB 2 (pc' := 20) (L' := [(0, .ref 35)]) (st' := [.ref 8]) (I' := I) (J' := J) (by with_unfolding_all rfl) ?_
    refine pq_1 rfl rfl rfl rfl (pq_le hle (f25_8_pq hB rfl)) ?_
    rintro _ I2 J2 ⟨rfl, hc2⟩
    rw [hc2] at hq
    dsimp only at hq
    refine pq_s hB 4 (pc' := 30) (L' := [(0, .ref 35)]) (st' := [.int 99, .int 0, .ref 8]) (I' := I2) (J' := J2) (by with_unfolding_all rfl) ?_
    generalize hc3 : f37_8 I2 J2 0 99 = q3 at hq
    obtain ⟨v3, _, _⟩ := q3
    dsimp only at hq
    refine pq_1 rfl rfl rfl rfl (f37_8_pq hB hc3) ?_
    rintro _ I3 J3 ⟨rfl, rfl, rfl⟩
    refine pq_ifn hB rfl (fun h4 => ?_) (fun h4 => ?_)
    · rw [h4, cond_true] at hq
      refine pq_s hB 8 (pc' := 56) (L' := [(0, .ref 35)]) (st' := [.ref 8]) (I' := (tup I3 36 4 (I3 8 7))) (J' := J3) (by with_unfolding_all rfl) ?_
      refine pq_1 rfl rfl rfl rfl (pq_le hle (f25_8_pq hB rfl)) ?_
      rintro _ I5 J5 ⟨rfl, hc5⟩
      rw [hc5] at hq
      dsimp only at hq
      refine pq_s hB 3 (pc' := 64) (L' := [(0, .ref 35)]) (st' := [.int 3, .ref 8]) (I' := I5) (J' := J5) (by with_unfolding_all rfl) ?_
      refine pq_1 rfl rfl rfl rfl (pq_le hle (f34_8_pq hB rfl)) ?_
      rintro _ I6 J6 ⟨v6, rfl, hc6⟩
      rw [hc6] at hq
      dsimp only at hq
      refine pq_ifn hB rfl (fun h7 => ?_) (fun h7 => ?_)
      · rw [h7, cond_true] at hq
        refine pq_s hB 1 (pc' := 84) (L' := [(0, .ref 35)]) (st' := [.int 0]) (I' := I6) (J' := J6) (by with_unfolding_all rfl) ?_
        subst hq
        exact pq_2i (x := 0) rfl ⟨_, rfl, rfl⟩
      · rw [h7, cond_false] at hq
        refine pq_s hB 4 (pc' := 77) (L' := [(0, .ref 35)]) (st' := [.int 20, .int 0, .ref 8]) (I' := I6) (J' := J6) (by with_unfolding_all rfl) ?_
        generalize hc8 : f37_8 I6 J6 0 20 = q8 at hq
        obtain ⟨v8, _, _⟩ := q8
        dsimp only at hq
        refine pq_1 rfl rfl rfl rfl (f37_8_pq hB hc8) ?_
        rintro _ I8 J8 ⟨rfl, rfl, rfl⟩
        refine pq_ifn hB rfl (fun h9 => ?_) (fun h9 => ?_)
        · rw [h9, cond_true] at hq
          refine pq_s hB 11 (pc' := 108) (L' := [(0, .ref 35)]) (st' := [.ref 8]) (I' := (tup (tup I8 36 5 (I8 8 7)) 35 2 1)) (J' := J8) (by with_unfolding_all rfl) ?_
          refine pq_1 rfl rfl rfl rfl (pq_le hle (f25_8_pq hB rfl)) ?_
          rintro _ I10 J10 ⟨rfl, hc10⟩
          rw [hc10] at hq
          dsimp only at hq
          refine pq_s hB 2 (pc' := 115) (L' := [(0, .ref 35)]) (st' := [.ref 8]) (I' := I10) (J' := J10) (by with_unfolding_all rfl) ?_
          refine pq_1 rfl rfl rfl rfl (pq_le hle (f35_8_pq hB rfl)) ?_
          rintro _ I11 J11 ⟨v11, rfl, hc11⟩
          rw [hc11] at hq
          dsimp only at hq
          subst hq
          exact pq_2i (x := v11) rfl ⟨_, rfl, rfl⟩
        · rw [h9, cond_false] at hq
          refine pq_s hB 1 (pc' := 84) (L' := [(0, .ref 35)]) (st' := [.int 0]) (I' := I8) (J' := J8) (by with_unfolding_all rfl) ?_
          subst hq
          exact pq_2i (x := 0) rfl ⟨_, rfl, rfl⟩
    · rw [h4, cond_false] at hq
      refine pq_s hB 1 (pc' := 37) (L' := [(0, .ref 35)]) (st' := [.int 0]) (I' := I3) (J' := J3) (by with_unfolding_all rfl) ?_
      subst hq
      exact pq_2i (x := 0) rfl ⟨_, rfl, rfl⟩
  · rw [h1, cond_false] at hq
    refine pq_s hB 3 (pc' := 12) (L' := [(0, .ref 35)]) (st' := [.int 5, .ref 8]) (I' := I) (J' := J) (by with_unfolding_all rfl) ?_
    generalize hc12 : f33_8 I J 5 = q12 at hq
    obtain ⟨v12, _, _⟩ := q12
    dsimp only at hq
    refine pq_1 rfl rfl rfl rfl (f33_8_pq hB hc12) ?_
    rintro _ I12 J12 ⟨rfl, rfl, rfl⟩
    subst hq
    exact pq_2i (x := v12) rfl ⟨_, rfl, rfl⟩
-- LP$Room.cellOf
def f43 (I : tI) (J : tJ) (a0 : Int32) (a1 : Int32) : Int32 × tI × tJ :=
  (((10 * a1) + a0), I, J)
set_option maxRecDepth 100000 in
theorem f43_pq {sc : List Int32} {B : xM} {n : Nat} {I : tI} {J : tJ} {a0 : Int32} {a1 : Int32} (hB : kB pT B) : ∀ {q : Int32 × tI × tJ}, f43 I J a0 a1 = q → pq sc B n (xt_43, 2, 1) 0 [(0, .int a0), (1, .int a1)] [] I J (fun v I1 J1 => v = some (.int q.1) ∧ I1 = q.2.1 ∧ J1 = q.2.2) := by
  intro q hq
  unfold f43 at hq
  refine pq_s hB 5 (pc' := 6) (L' := [(0, .int a0), (1, .int a1)]) (st' := [.int ((10 * a1) + a0)]) (I' := I) (J' := J) (by with_unfolding_all rfl) ?_
  subst hq
  exact pq_2i (x := ((10 * a1) + a0)) rfl ⟨rfl, rfl, rfl⟩
-- LP$SceneReader.readCell
def f79_35 (N : Nat) (I : tI) (J : tJ) : Option (Int32 × tI × tJ) :=
  (match f37_8 I J 0 ((I 37 0) - 1) with | (v1, I1, J1) => bif xcmp .ne v1 0 then (match f25_8 N I1 J1 with | none => none | some (_, I3, J3) => (match f37_8 I3 J3 0 ((I3 37 1) - 1) with | (v4, I4, J4) => bif xcmp .ne v4 0 then (match f43 I4 J4 (I1 8 7) (I4 8 7) with | (v6, I6, J6) => some (1, (tup I6 35 3 v6), J6)) else some (0, I4, J4))) else some (0, I1, J1))
set_option maxRecDepth 100000 in
theorem f79_35_pq {sc : List Int32} {B : xM} {N : Nat} {I : tI} {J : tJ} (hB : kB pT B) : ∀ {X : Option (Int32 × tI × tJ)}, f79_35 N I J = X → pq sc B N (xt_79, 2, 3) 0 [(0, .ref 35)] [] I J (fun v I1 J1 => ∃ a, v = some (.int a) ∧ X = some (a, I1, J1)) := by
  intro X hq
  unfold f79_35 at hq
  have hle : N ≤ N := Nat.le_refl N
  refine pq_s hB 9 (pc' := 17) (L' := [(0, .ref 35)]) (st' := [.int ((I 37 0) - 1), .int 0, .ref 8]) (I' := I) (J' := J) (by with_unfolding_all rfl) ?_
  generalize hc1 : f37_8 I J 0 ((I 37 0) - 1) = q1 at hq
  obtain ⟨v1, _, _⟩ := q1
  dsimp only at hq
  refine pq_1 rfl rfl rfl rfl (f37_8_pq hB hc1) ?_
  rintro _ I1 J1 ⟨rfl, rfl, rfl⟩
  refine pq_ifn hB rfl (fun h2 => ?_) (fun h2 => ?_)
  · rw [h2, cond_true] at hq
    refine pq_s hB 6 (pc' := 37) (L' := [(1, .int (I1 8 7)), (0, .ref 35)]) (st' := [.ref 8]) (I' := I1) (J' := J1) (by with_unfolding_all rfl) ?_
    refine pq_1 rfl rfl rfl rfl (pq_le hle (f25_8_pq hB rfl)) ?_
    rintro _ I3 J3 ⟨rfl, hc3⟩
    rw [hc3] at hq
    dsimp only at hq
    refine pq_s hB 9 (pc' := 57) (L' := [(1, .int (I1 8 7)), (0, .ref 35)]) (st' := [.int ((I3 37 1) - 1), .int 0, .ref 8]) (I' := I3) (J' := J3) (by with_unfolding_all rfl) ?_
    generalize hc4 : f37_8 I3 J3 0 ((I3 37 1) - 1) = q4 at hq
    obtain ⟨v4, _, _⟩ := q4
    dsimp only at hq
    refine pq_1 rfl rfl rfl rfl (f37_8_pq hB hc4) ?_
    rintro _ I4 J4 ⟨rfl, rfl, rfl⟩
    refine pq_ifn hB rfl (fun h5 => ?_) (fun h5 => ?_)
    · rw [h5, cond_true] at hq
      refine pq_s hB 5 (pc' := 74) (L' := [(1, .int (I1 8 7)), (0, .ref 35)]) (st' := [.int (I4 8 7), .int (I1 8 7), .ref 35]) (I' := I4) (J' := J4) (by with_unfolding_all rfl) ?_
      generalize hc6 : f43 I4 J4 (I1 8 7) (I4 8 7) = q6 at hq
      obtain ⟨v6, _, _⟩ := q6
      dsimp only at hq
      refine pq_1 rfl rfl rfl rfl (f43_pq hB hc6) ?_
      rintro _ I6 J6 ⟨rfl, rfl, rfl⟩
      refine pq_s hB 2 (pc' := 81) (L' := [(1, .int (I1 8 7)), (0, .ref 35)]) (st' := [.int 1]) (I' := (tup I6 35 3 v6)) (J' := J6) (by with_unfolding_all rfl) ?_
      subst hq
      exact pq_2i (x := 1) rfl ⟨_, rfl, rfl⟩
    · rw [h5, cond_false] at hq
      refine pq_s hB 1 (pc' := 64) (L' := [(1, .int (I1 8 7)), (0, .ref 35)]) (st' := [.int 0]) (I' := I4) (J' := J4) (by with_unfolding_all rfl) ?_
      subst hq
      exact pq_2i (x := 0) rfl ⟨_, rfl, rfl⟩
  · rw [h2, cond_false] at hq
    refine pq_s hB 1 (pc' := 24) (L' := [(0, .ref 35)]) (st' := [.int 0]) (I' := I1) (J' := J1) (by with_unfolding_all rfl) ?_
    subst hq
    exact pq_2i (x := 0) rfl ⟨_, rfl, rfl⟩
-- LP$Room.isWall
def f47_37 (I : tI) (J : tJ) (a0 : Int32) : Int32 × tI × tJ :=
  bif xcmp .eq (lg_cmp (((((J 37 2)).toUInt64 >>> ((Int32.toInt64 (a0)).toUInt64 &&& Int64.toUInt64 63)).toInt64) &&& 1) 0) 0 then (0, I, J) else (1, I, J)
set_option maxRecDepth 100000 in
theorem f47_37_pq {sc : List Int32} {B : xM} {n : Nat} {I : tI} {J : tJ} {a0 : Int32} (hB : kB pT B) : ∀ {q : Int32 × tI × tJ}, f47_37 I J a0 = q → pq sc B n (xt_47, 2, 3) 0 [(0, .ref 37), (1, .int a0)] [] I J (fun v I1 J1 => v = some (.int q.1) ∧ I1 = q.2.1 ∧ J1 = q.2.2) := by
  intro q hq
  unfold f47_37 at hq
  refine pq_s hB 8 (pc' := 10) (L' := [(0, .ref 37), (1, .int a0)]) (st' := [.int (lg_cmp (((((J 37 2)).toUInt64 >>> ((Int32.toInt64 (a0)).toUInt64 &&& Int64.toUInt64 63)).toInt64) &&& 1) 0)]) (I' := I) (J' := J) (by with_unfolding_all rfl) ?_
  refine pq_ifn hB rfl (fun h1 => ?_) (fun h1 => ?_)
  · rw [h1, cond_true] at hq
    refine pq_s hB 1 (pc' := 18) (L' := [(0, .ref 37), (1, .int a0)]) (st' := [.int 0]) (I' := I) (J' := J) (by with_unfolding_all rfl) ?_
    subst hq
    exact pq_2i (x := 0) rfl ⟨rfl, rfl, rfl⟩
  · rw [h1, cond_false] at hq
    refine pq_s hB 2 (pc' := 18) (L' := [(0, .ref 37), (1, .int a0)]) (st' := [.int 1]) (I' := I) (J' := J) (by with_unfolding_all rfl) ?_
    subst hq
    exact pq_2i (x := 1) rfl ⟨rfl, rfl, rfl⟩
-- LP$Folk.isHome, the loop at 2, to [28, 20]
def f15_38_l2 (N : Nat) : Nat → tI → tJ → Int32 → Int32 → Option (Nat × Int32 × Int32 × tI × tJ)
  | 0, _, _, _, _ => none
  | k + 1, I, J, x1, x2 =>
    bif xcmp .ge x2 (I 38 0) then some (0, x1, x2, I, J) else bif xcmp .ne (I 40 (x2).toNatClampNeg) x1 then f15_38_l2 N k I J x1 (x2 + 1) else some (1, x1, x2, I, J)
set_option maxRecDepth 100000 in
theorem f15_38_l2_pq {sc : List Int32} {B : xM} {N : Nat} {P : Option Value → tI → tJ → Prop} (hB : kB pT B) : ∀ (k : Nat), k ≤ N → ∀ (b m : Nat), b ≤ k → b ≤ m → ∀ {I : tI} {J : tJ} {x1 : Int32} {x2 : Int32} {Y : Option (Nat × Int32 × Int32 × tI × tJ)}, f15_38_l2 N k I J x1 x2 = Y → (∀ {y1 : Int32} {y2 : Int32} {I1 : tI} {J1 : tJ}, Y = some (0, y1, y2, I1, J1) → pq sc B m (xt_15, 3, 3) 28 [(0, .ref 38), (1, .int y1), (2, .int y2)] [] I1 J1 P) → (∀ {y1 : Int32} {y2 : Int32} {I1 : tI} {J1 : tJ}, Y = some (1, y1, y2, I1, J1) → pq sc B m (xt_15, 3, 3) 20 [(0, .ref 38), (1, .int y1), (2, .int y2)] [] I1 J1 P) → pq sc B b (xt_15, 3, 3) 2 [(0, .ref 38), (1, .int x1), (2, .int x2)] [] I J P
  | 0, _, b, _, hb, _, _, _, _, _, _, _, _, _ => by
    have e : b = 0 := by omega
    subst e
    exact pq_zero
  | _ + 1, _, 0, _, _, _, _, _, _, _, _, _, _, _ => pq_zero
  | k + 1, hk, b + 1, m, hb, hm, I, J, x1, x2, Y, hq, hx0, hx1 => by
    unfold f15_38_l2 at hq
    have hle : b ≤ N := by omega
    refine pq_s1 hB 2 (pc' := 7) (L' := [(0, .ref 38), (1, .int x1), (2, .int x2)]) (st' := [.int (I 38 0), .int x2]) (I' := I) (J' := J) (by with_unfolding_all rfl) ?_
    refine pq_icn hB rfl (fun h1 => ?_) (fun h1 => ?_)
    · rw [h1, cond_true] at hq
      exact pq_le (by omega) (hx0 hq.symm)
    · rw [h1, cond_false] at hq
      refine pq_s hB 5 (pc' := 17) (L' := [(0, .ref 38), (1, .int x1), (2, .int x2)]) (st' := [.int x1, .int (I 40 (x2).toNatClampNeg)]) (I' := I) (J' := J) (by with_unfolding_all rfl) ?_
      refine pq_icn hB rfl (fun h2 => ?_) (fun h2 => ?_)
      · rw [h2, cond_true] at hq
        refine pq_s hB 2 (pc' := 2) (L' := [(2, .int (x2 + 1)), (0, .ref 38), (1, .int x1)]) (st' := []) (I' := I) (J' := J) (by with_unfolding_all rfl) ?_
        refine pq_perm (L := [(0, .ref 38), (1, .int x1), (2, .int (x2 + 1))]) (leqn_of ⟨rfl, rfl, rfl, trivial⟩ ⟨rfl, rfl, rfl, trivial⟩ ⟨rfl, rfl, rfl, trivial⟩) ?_
        exact f15_38_l2_pq hB k (by omega) b m (by omega) (by omega) hq hx0 hx1
      · rw [h2, cond_false] at hq
        exact pq_le (by omega) (hx1 hq.symm)
-- LP$Folk.isHome
def f15_38 (N : Nat) (I : tI) (J : tJ) (a0 : Int32) : Option (Int32 × tI × tJ) :=
  (match f15_38_l2 N N I J a0 0 with | none => none | some (k1, y1_1, y1_2, I1, J1) => bif Nat.beq k1 0 then (some (0, I1, J1)) else some (1, I1, J1))
set_option maxRecDepth 100000 in
theorem f15_38_pq {sc : List Int32} {B : xM} {N : Nat} {I : tI} {J : tJ} {a0 : Int32} (hB : kB pT B) : ∀ {X : Option (Int32 × tI × tJ)}, f15_38 N I J a0 = X → pq sc B N (xt_15, 3, 3) 0 [(0, .ref 38), (1, .int a0)] [] I J (fun v I1 J1 => ∃ a, v = some (.int a) ∧ X = some (a, I1, J1)) := by
  intro X hq
  unfold f15_38 at hq
  have hle : N ≤ N := Nat.le_refl N
  refine pq_s hB 2 (pc' := 2) (L' := [(2, .int 0), (0, .ref 38), (1, .int a0)]) (st' := []) (I' := I) (J' := J) (by with_unfolding_all rfl) ?_
  refine pq_perm (L := [(0, .ref 38), (1, .int a0), (2, .int 0)]) (leqn_of ⟨rfl, rfl, rfl, trivial⟩ ⟨rfl, rfl, rfl, trivial⟩ ⟨rfl, rfl, rfl, trivial⟩) ?_
  refine f15_38_l2_pq hB N (Nat.le_refl N) N N hle (Nat.le_refl N) rfl ?_ ?_
  ·
    intro y1_1 y1_2 I1 J1 hc1
    rw [hc1] at hq
    dsimp only at hq
    rw [show Nat.beq 0 0 = true from rfl, cond_true] at hq
    refine pq_s hB 1 (pc' := 29) (L' := [(0, .ref 38), (1, .int y1_1), (2, .int y1_2)]) (st' := [.int 0]) (I' := I1) (J' := J1) (by with_unfolding_all rfl) ?_
    subst hq
    exact pq_2i (x := 0) rfl ⟨_, rfl, rfl⟩
  ·
    intro y1_1 y1_2 I1 J1 hc1
    rw [hc1] at hq
    dsimp only at hq
    rw [show Nat.beq 1 0 = false from rfl, cond_false] at hq
    refine pq_s hB 1 (pc' := 21) (L' := [(0, .ref 38), (1, .int y1_1), (2, .int y1_2)]) (st' := [.int 1]) (I' := I1) (J' := J1) (by with_unfolding_all rfl) ?_
    subst hq
    exact pq_2i (x := 1) rfl ⟨_, rfl, rfl⟩
-- LP$SceneReader.passFreshCell
def f80_35 (N : Nat) (I : tI) (J : tJ) : Option (Int32 × tI × tJ) :=
  (match f79_35 N I J with | none => none | some (v1, I1, J1) => bif xcmp .ne v1 0 then (match f47_37 I1 J1 (I1 35 3) with | (v3, I3, J3) => bif xcmp .ne v3 0 then (match f33_8 I3 J3 5 with | (v5, I5, J5) => some (v5, I5, J5)) else (match f15_38 N I3 J3 (I3 35 3) with | none => none | some (v6, I6, J6) => bif xcmp .eq v6 0 then (match f25_8 N I6 J6 with | none => none | some (_, I8, J8) => some (1, I8, J8)) else (match f33_8 I6 J6 5 with | (v9, I9, J9) => some (v9, I9, J9)))) else some (0, I1, J1))
set_option maxRecDepth 100000 in
theorem f80_35_pq {sc : List Int32} {B : xM} {N : Nat} {I : tI} {J : tJ} (hB : kB pT B) : ∀ {X : Option (Int32 × tI × tJ)}, f80_35 N I J = X → pq sc B N (xt_80, 1, 3) 0 [(0, .ref 35)] [] I J (fun v I1 J1 => ∃ a, v = some (.int a) ∧ X = some (a, I1, J1)) := by
  intro X hq
  unfold f80_35 at hq
  have hle : N ≤ N := Nat.le_refl N
  refine pq_s hB 1 (pc' := 1) (L' := [(0, .ref 35)]) (st' := [.ref 35]) (I' := I) (J' := J) (by with_unfolding_all rfl) ?_
  refine pq_1 rfl rfl rfl rfl (pq_le hle (f79_35_pq hB rfl)) ?_
  rintro _ I1 J1 ⟨v1, rfl, hc1⟩
  rw [hc1] at hq
  dsimp only at hq
  refine pq_ifn hB rfl (fun h2 => ?_) (fun h2 => ?_)
  · rw [h2, cond_true] at hq
    refine pq_s hB 5 (pc' := 20) (L' := [(0, .ref 35)]) (st' := [.int (I1 35 3), .ref 37]) (I' := I1) (J' := J1) (by with_unfolding_all rfl) ?_
    generalize hc3 : f47_37 I1 J1 (I1 35 3) = q3 at hq
    obtain ⟨v3, _, _⟩ := q3
    dsimp only at hq
    refine pq_1 rfl rfl rfl rfl (f47_37_pq hB hc3) ?_
    rintro _ I3 J3 ⟨rfl, rfl, rfl⟩
    refine pq_ifn hB rfl (fun h4 => ?_) (fun h4 => ?_)
    · rw [h4, cond_true] at hq
      refine pq_s hB 3 (pc' := 48) (L' := [(0, .ref 35)]) (st' := [.int 5, .ref 8]) (I' := I3) (J' := J3) (by with_unfolding_all rfl) ?_
      generalize hc5 : f33_8 I3 J3 5 = q5 at hq
      obtain ⟨v5, _, _⟩ := q5
      dsimp only at hq
      refine pq_1 rfl rfl rfl rfl (f33_8_pq hB hc5) ?_
      rintro _ I5 J5 ⟨rfl, rfl, rfl⟩
      subst hq
      exact pq_2i (x := v5) rfl ⟨_, rfl, rfl⟩
    · rw [h4, cond_false] at hq
      refine pq_s hB 5 (pc' := 37) (L' := [(0, .ref 35)]) (st' := [.int (I3 35 3), .ref 38]) (I' := I3) (J' := J3) (by with_unfolding_all rfl) ?_
      refine pq_1 rfl rfl rfl rfl (pq_le hle (f15_38_pq hB rfl)) ?_
      rintro _ I6 J6 ⟨v6, rfl, hc6⟩
      rw [hc6] at hq
      dsimp only at hq
      refine pq_ifn hB rfl (fun h7 => ?_) (fun h7 => ?_)
      · rw [h7, cond_true] at hq
        refine pq_s hB 2 (pc' := 56) (L' := [(0, .ref 35)]) (st' := [.ref 8]) (I' := I6) (J' := J6) (by with_unfolding_all rfl) ?_
        refine pq_1 rfl rfl rfl rfl (pq_le hle (f25_8_pq hB rfl)) ?_
        rintro _ I8 J8 ⟨rfl, hc8⟩
        rw [hc8] at hq
        dsimp only at hq
        refine pq_s hB 1 (pc' := 60) (L' := [(0, .ref 35)]) (st' := [.int 1]) (I' := I8) (J' := J8) (by with_unfolding_all rfl) ?_
        subst hq
        exact pq_2i (x := 1) rfl ⟨_, rfl, rfl⟩
      · rw [h7, cond_false] at hq
        refine pq_s hB 3 (pc' := 48) (L' := [(0, .ref 35)]) (st' := [.int 5, .ref 8]) (I' := I6) (J' := J6) (by with_unfolding_all rfl) ?_
        generalize hc9 : f33_8 I6 J6 5 = q9 at hq
        obtain ⟨v9, _, _⟩ := q9
        dsimp only at hq
        refine pq_1 rfl rfl rfl rfl (f33_8_pq hB hc9) ?_
        rintro _ I9 J9 ⟨rfl, rfl, rfl⟩
        subst hq
        exact pq_2i (x := v9) rfl ⟨_, rfl, rfl⟩
  · rw [h2, cond_false] at hq
    refine pq_s hB 1 (pc' := 8) (L' := [(0, .ref 35)]) (st' := [.int 0]) (I' := I1) (J' := J1) (by with_unfolding_all rfl) ?_
    subst hq
    exact pq_2i (x := 0) rfl ⟨_, rfl, rfl⟩
-- LP$SceneReader.readWall
def f81_35 (N : Nat) (I : tI) (J : tJ) : Option (Int32 × tI × tJ) :=
  (match f76_35 I J with | (v1, I1, J1) => bif xcmp .ne v1 0 then (match f25_8 N I1 J1 with | none => none | some (_, I3, J3) => (match f80_35 N I3 J3 with | none => none | some (v4, I4, J4) => bif xcmp .ne v4 0 then (match f35_8 N I4 (tup J4 37 2 ((J4 37 2) ||| (1 <<< ((Int32.toInt64 ((I4 35 3))) &&& 63)))) with | none => none | some (v6, I6, J6) => some (v6, I6, J6)) else some (0, I4, J4))) else (match f33_8 I1 J1 2 with | (v7, I7, J7) => some (v7, I7, J7)))
set_option maxRecDepth 100000 in
theorem f81_35_pq {sc : List Int32} {B : xM} {N : Nat} {I : tI} {J : tJ} (hB : kB pT B) : ∀ {X : Option (Int32 × tI × tJ)}, f81_35 N I J = X → pq sc B N (xt_81, 1, 3) 0 [(0, .ref 35)] [] I J (fun v I1 J1 => ∃ a, v = some (.int a) ∧ X = some (a, I1, J1)) := by
  intro X hq
  unfold f81_35 at hq
  have hle : N ≤ N := Nat.le_refl N
  refine pq_s hB 1 (pc' := 1) (L' := [(0, .ref 35)]) (st' := [.ref 35]) (I' := I) (J' := J) (by with_unfolding_all rfl) ?_
  generalize hc1 : f76_35 I J = q1 at hq
  obtain ⟨v1, _, _⟩ := q1
  dsimp only at hq
  refine pq_1 rfl rfl rfl rfl (f76_35_pq hB hc1) ?_
  rintro _ I1 J1 ⟨rfl, rfl, rfl⟩
  refine pq_ifn hB rfl (fun h2 => ?_) (fun h2 => ?_)
  · rw [h2, cond_true] at hq
    refine pq_s hB 2 (pc' := 20) (L' := [(0, .ref 35)]) (st' := [.ref 8]) (I' := I1) (J' := J1) (by with_unfolding_all rfl) ?_
    refine pq_1 rfl rfl rfl rfl (pq_le hle (f25_8_pq hB rfl)) ?_
    rintro _ I3 J3 ⟨rfl, hc3⟩
    rw [hc3] at hq
    dsimp only at hq
    refine pq_s hB 1 (pc' := 24) (L' := [(0, .ref 35)]) (st' := [.ref 35]) (I' := I3) (J' := J3) (by with_unfolding_all rfl) ?_
    refine pq_1 rfl rfl rfl rfl (pq_le hle (f80_35_pq hB rfl)) ?_
    rintro _ I4 J4 ⟨v4, rfl, hc4⟩
    rw [hc4] at hq
    dsimp only at hq
    refine pq_ifn hB rfl (fun h5 => ?_) (fun h5 => ?_)
    · rw [h5, cond_true] at hq
      refine pq_s hB 13 (pc' := 57) (L' := [(0, .ref 35)]) (st' := [.ref 8]) (I' := I4) (J' := (tup J4 37 2 ((J4 37 2) ||| (1 <<< ((Int32.toInt64 ((I4 35 3))) &&& 63))))) (by with_unfolding_all rfl) ?_
      refine pq_1 rfl rfl rfl rfl (pq_le hle (f35_8_pq hB rfl)) ?_
      rintro _ I6 J6 ⟨v6, rfl, hc6⟩
      rw [hc6] at hq
      dsimp only at hq
      subst hq
      exact pq_2i (x := v6) rfl ⟨_, rfl, rfl⟩
    · rw [h5, cond_false] at hq
      refine pq_s hB 1 (pc' := 31) (L' := [(0, .ref 35)]) (st' := [.int 0]) (I' := I4) (J' := J4) (by with_unfolding_all rfl) ?_
      subst hq
      exact pq_2i (x := 0) rfl ⟨_, rfl, rfl⟩
  · rw [h2, cond_false] at hq
    refine pq_s hB 3 (pc' := 12) (L' := [(0, .ref 35)]) (st' := [.int 2, .ref 8]) (I' := I1) (J' := J1) (by with_unfolding_all rfl) ?_
    generalize hc7 : f33_8 I1 J1 2 = q7 at hq
    obtain ⟨v7, _, _⟩ := q7
    dsimp only at hq
    refine pq_1 rfl rfl rfl rfl (f33_8_pq hB hc7) ?_
    rintro _ I7 J7 ⟨rfl, rfl, rfl⟩
    subst hq
    exact pq_2i (x := v7) rfl ⟨_, rfl, rfl⟩
-- LP$Reader.isName
def f38_8 (I : tI) (J : tJ) : Int32 × tI × tJ :=
  bif xcmp .ne (I 8 2) 1 then (match f33_8 I J 2 with | (v2, I2, J2) => bif xcmp .eq v2 0 then (0, I2, J2) else (1, I2, J2)) else bif xcmp .ne (I 8 5) (-1) then (match f33_8 I J 2 with | (v5, I5, J5) => bif xcmp .eq v5 0 then (0, I5, J5) else (1, I5, J5)) else bif xcmp .le ((I 8 4) - (I 8 3)) 8 then (1, I, J) else (match f33_8 I J 2 with | (v8, I8, J8) => bif xcmp .eq v8 0 then (0, I8, J8) else (1, I8, J8))
set_option maxRecDepth 100000 in
theorem f38_8_pq {sc : List Int32} {B : xM} {n : Nat} {I : tI} {J : tJ} (hB : kB pT B) : ∀ {q : Int32 × tI × tJ}, f38_8 I J = q → pq sc B n (xt_38, 1, 3) 0 [(0, .ref 8)] [] I J (fun v I1 J1 => v = some (.int q.1) ∧ I1 = q.2.1 ∧ J1 = q.2.2) := by
  intro q hq
  unfold f38_8 at hq
  refine pq_s hB 3 (pc' := 5) (L' := [(0, .ref 8)]) (st' := [.int 1, .int (I 8 2)]) (I' := I) (J' := J) (by with_unfolding_all rfl) ?_
  refine pq_icn hB rfl (fun h1 => ?_) (fun h1 => ?_)
  · rw [h1, cond_true] at hq
    refine pq_s hB 2 (pc' := 32) (L' := [(0, .ref 8)]) (st' := [.int 2, .ref 8]) (I' := I) (J' := J) (by with_unfolding_all rfl) ?_
    generalize hc2 : f33_8 I J 2 = q2 at hq
    obtain ⟨v2, _, _⟩ := q2
    dsimp only at hq
    refine pq_1 rfl rfl rfl rfl (f33_8_pq hB hc2) ?_
    rintro _ I2 J2 ⟨rfl, rfl, rfl⟩
    refine pq_ifn hB rfl (fun h3 => ?_) (fun h3 => ?_)
    · rw [h3, cond_true] at hq
      refine pq_s hB 1 (pc' := 43) (L' := [(0, .ref 8)]) (st' := [.int 0]) (I' := I2) (J' := J2) (by with_unfolding_all rfl) ?_
      subst hq
      exact pq_2i (x := 0) rfl ⟨rfl, rfl, rfl⟩
    · rw [h3, cond_false] at hq
      refine pq_s hB 2 (pc' := 43) (L' := [(0, .ref 8)]) (st' := [.int 1]) (I' := I2) (J' := J2) (by with_unfolding_all rfl) ?_
      subst hq
      exact pq_2i (x := 1) rfl ⟨rfl, rfl, rfl⟩
  · rw [h1, cond_false] at hq
    refine pq_s hB 3 (pc' := 13) (L' := [(0, .ref 8)]) (st' := [.int (-1), .int (I 8 5)]) (I' := I) (J' := J) (by with_unfolding_all rfl) ?_
    refine pq_icn hB rfl (fun h4 => ?_) (fun h4 => ?_)
    · rw [h4, cond_true] at hq
      refine pq_s hB 2 (pc' := 32) (L' := [(0, .ref 8)]) (st' := [.int 2, .ref 8]) (I' := I) (J' := J) (by with_unfolding_all rfl) ?_
      generalize hc5 : f33_8 I J 2 = q5 at hq
      obtain ⟨v5, _, _⟩ := q5
      dsimp only at hq
      refine pq_1 rfl rfl rfl rfl (f33_8_pq hB hc5) ?_
      rintro _ I5 J5 ⟨rfl, rfl, rfl⟩
      refine pq_ifn hB rfl (fun h6 => ?_) (fun h6 => ?_)
      · rw [h6, cond_true] at hq
        refine pq_s hB 1 (pc' := 43) (L' := [(0, .ref 8)]) (st' := [.int 0]) (I' := I5) (J' := J5) (by with_unfolding_all rfl) ?_
        subst hq
        exact pq_2i (x := 0) rfl ⟨rfl, rfl, rfl⟩
      · rw [h6, cond_false] at hq
        refine pq_s hB 2 (pc' := 43) (L' := [(0, .ref 8)]) (st' := [.int 1]) (I' := I5) (J' := J5) (by with_unfolding_all rfl) ?_
        subst hq
        exact pq_2i (x := 1) rfl ⟨rfl, rfl, rfl⟩
    · rw [h4, cond_false] at hq
      refine pq_s hB 6 (pc' := 27) (L' := [(0, .ref 8)]) (st' := [.int 8, .int ((I 8 4) - (I 8 3))]) (I' := I) (J' := J) (by with_unfolding_all rfl) ?_
      refine pq_icn hB rfl (fun h7 => ?_) (fun h7 => ?_)
      · rw [h7, cond_true] at hq
        refine pq_s hB 2 (pc' := 43) (L' := [(0, .ref 8)]) (st' := [.int 1]) (I' := I) (J' := J) (by with_unfolding_all rfl) ?_
        subst hq
        exact pq_2i (x := 1) rfl ⟨rfl, rfl, rfl⟩
      · rw [h7, cond_false] at hq
        refine pq_s hB 2 (pc' := 32) (L' := [(0, .ref 8)]) (st' := [.int 2, .ref 8]) (I' := I) (J' := J) (by with_unfolding_all rfl) ?_
        generalize hc8 : f33_8 I J 2 = q8 at hq
        obtain ⟨v8, _, _⟩ := q8
        dsimp only at hq
        refine pq_1 rfl rfl rfl rfl (f33_8_pq hB hc8) ?_
        rintro _ I8 J8 ⟨rfl, rfl, rfl⟩
        refine pq_ifn hB rfl (fun h9 => ?_) (fun h9 => ?_)
        · rw [h9, cond_true] at hq
          refine pq_s hB 1 (pc' := 43) (L' := [(0, .ref 8)]) (st' := [.int 0]) (I' := I8) (J' := J8) (by with_unfolding_all rfl) ?_
          subst hq
          exact pq_2i (x := 0) rfl ⟨rfl, rfl, rfl⟩
        · rw [h9, cond_false] at hq
          refine pq_s hB 2 (pc' := 43) (L' := [(0, .ref 8)]) (st' := [.int 1]) (I' := I8) (J' := J8) (by with_unfolding_all rfl) ?_
          subst hq
          exact pq_2i (x := 1) rfl ⟨rfl, rfl, rfl⟩
-- LP$Reader.indexOf, the loop at 3, to [34, 25]
def f40_39_l3 (N : Nat) : Nat → tI → tJ → Int32 → Int64 → Int32 → Option (Nat × Int32 × Int64 × Int32 × tI × tJ)
  | 0, _, _, _, _, _ => none
  | k + 1, I, J, x1, x2, x4 =>
    bif xcmp .ge x4 x1 then some (0, x1, x2, x4, I, J) else bif xcmp .ge x4 5 then some (0, x1, x2, x4, I, J) else bif xcmp .ne (lg_cmp (J 39 (x4).toNatClampNeg) x2) 0 then f40_39_l3 N k I J x1 x2 (x4 + 1) else some (1, x1, x2, x4, I, J)
set_option maxRecDepth 100000 in
theorem f40_39_l3_pq {sc : List Int32} {B : xM} {N : Nat} {P : Option Value → tI → tJ → Prop} (hB : kB pT B) : ∀ (k : Nat), k ≤ N → ∀ (b m : Nat), b ≤ k → b ≤ m → ∀ {I : tI} {J : tJ} {x1 : Int32} {x2 : Int64} {x4 : Int32} {Y : Option (Nat × Int32 × Int64 × Int32 × tI × tJ)}, f40_39_l3 N k I J x1 x2 x4 = Y → (∀ {y1 : Int32} {y2 : Int64} {y4 : Int32} {I1 : tI} {J1 : tJ}, Y = some (0, y1, y2, y4, I1, J1) → pq sc B m (xt_40, 5, 1) 34 [(0, .ref 39), (1, .int y1), (2, .long y2), (4, .int y4)] [] I1 J1 P) → (∀ {y1 : Int32} {y2 : Int64} {y4 : Int32} {I1 : tI} {J1 : tJ}, Y = some (1, y1, y2, y4, I1, J1) → pq sc B m (xt_40, 5, 1) 25 [(0, .ref 39), (1, .int y1), (2, .long y2), (4, .int y4)] [] I1 J1 P) → pq sc B b (xt_40, 5, 1) 3 [(0, .ref 39), (1, .int x1), (2, .long x2), (4, .int x4)] [] I J P
  | 0, _, b, _, hb, _, _, _, _, _, _, _, _, _, _ => by
    have e : b = 0 := by omega
    subst e
    exact pq_zero
  | _ + 1, _, 0, _, _, _, _, _, _, _, _, _, _, _, _ => pq_zero
  | k + 1, hk, b + 1, m, hb, hm, I, J, x1, x2, x4, Y, hq, hx0, hx1 => by
    unfold f40_39_l3 at hq
    have hle : b ≤ N := by omega
    refine pq_s1 hB 1 (pc' := 6) (L' := [(0, .ref 39), (1, .int x1), (2, .long x2), (4, .int x4)]) (st' := [.int x1, .int x4]) (I' := I) (J' := J) (by with_unfolding_all rfl) ?_
    refine pq_icn hB rfl (fun h1 => ?_) (fun h1 => ?_)
    · rw [h1, cond_true] at hq
      exact pq_le (by omega) (hx0 hq.symm)
    · rw [h1, cond_false] at hq
      refine pq_s hB 3 (pc' := 13) (L' := [(0, .ref 39), (1, .int x1), (2, .long x2), (4, .int x4)]) (st' := [.int 5, .int x4]) (I' := I) (J' := J) (by with_unfolding_all rfl) ?_
      refine pq_icn hB rfl (fun h2 => ?_) (fun h2 => ?_)
      · rw [h2, cond_true] at hq
        exact pq_le (by omega) (hx0 hq.symm)
      · rw [h2, cond_false] at hq
        refine pq_s hB 5 (pc' := 22) (L' := [(0, .ref 39), (1, .int x1), (2, .long x2), (4, .int x4)]) (st' := [.int (lg_cmp (J 39 (x4).toNatClampNeg) x2)]) (I' := I) (J' := J) (by with_unfolding_all rfl) ?_
        refine pq_ifn hB rfl (fun h3 => ?_) (fun h3 => ?_)
        · rw [h3, cond_true] at hq
          refine pq_s hB 2 (pc' := 3) (L' := [(4, .int (x4 + 1)), (0, .ref 39), (1, .int x1), (2, .long x2)]) (st' := []) (I' := I) (J' := J) (by with_unfolding_all rfl) ?_
          refine pq_perm (L := [(0, .ref 39), (1, .int x1), (2, .long x2), (4, .int (x4 + 1))]) (leqn_of ⟨rfl, rfl, rfl, rfl, trivial⟩ ⟨rfl, rfl, rfl, rfl, trivial⟩ ⟨rfl, rfl, rfl, rfl, trivial⟩) ?_
          exact f40_39_l3_pq hB k (by omega) b m (by omega) (by omega) hq hx0 hx1
        · rw [h3, cond_false] at hq
          exact pq_le (by omega) (hx1 hq.symm)
-- LP$Reader.indexOf
def f40_39 (N : Nat) (I : tI) (J : tJ) (a0 : Int32) (a1 : Int64) : Option (Int32 × tI × tJ) :=
  (match f40_39_l3 N N I J a0 a1 0 with | none => none | some (k1, y1_1, y1_2, y1_4, I1, J1) => bif Nat.beq k1 0 then (some ((-1), I1, J1)) else some (y1_4, I1, J1))
set_option maxRecDepth 100000 in
theorem f40_39_pq {sc : List Int32} {B : xM} {N : Nat} {I : tI} {J : tJ} {a0 : Int32} {a1 : Int64} (hB : kB pT B) : ∀ {X : Option (Int32 × tI × tJ)}, f40_39 N I J a0 a1 = X → pq sc B N (xt_40, 5, 1) 0 [(0, .ref 39), (1, .int a0), (2, .long a1)] [] I J (fun v I1 J1 => ∃ a, v = some (.int a) ∧ X = some (a, I1, J1)) := by
  intro X hq
  unfold f40_39 at hq
  have hle : N ≤ N := Nat.le_refl N
  refine pq_s hB 2 (pc' := 3) (L' := [(4, .int 0), (0, .ref 39), (1, .int a0), (2, .long a1)]) (st' := []) (I' := I) (J' := J) (by with_unfolding_all rfl) ?_
  refine pq_perm (L := [(0, .ref 39), (1, .int a0), (2, .long a1), (4, .int 0)]) (leqn_of ⟨rfl, rfl, rfl, rfl, trivial⟩ ⟨rfl, rfl, rfl, rfl, trivial⟩ ⟨rfl, rfl, rfl, rfl, trivial⟩) ?_
  refine f40_39_l3_pq hB N (Nat.le_refl N) N N hle (Nat.le_refl N) rfl ?_ ?_
  ·
    intro y1_1 y1_2 y1_4 I1 J1 hc1
    rw [hc1] at hq
    dsimp only at hq
    rw [show Nat.beq 0 0 = true from rfl, cond_true] at hq
    refine pq_s hB 1 (pc' := 35) (L' := [(0, .ref 39), (1, .int y1_1), (2, .long y1_2), (4, .int y1_4)]) (st' := [.int (-1)]) (I' := I1) (J' := J1) (by with_unfolding_all rfl) ?_
    subst hq
    exact pq_2i (x := (-1)) rfl ⟨_, rfl, rfl⟩
  ·
    intro y1_1 y1_2 y1_4 I1 J1 hc1
    rw [hc1] at hq
    dsimp only at hq
    rw [show Nat.beq 1 0 = false from rfl, cond_false] at hq
    refine pq_s hB 1 (pc' := 27) (L' := [(0, .ref 39), (1, .int y1_1), (2, .long y1_2), (4, .int y1_4)]) (st' := [.int y1_4]) (I' := I1) (J' := J1) (by with_unfolding_all rfl) ?_
    subst hq
    exact pq_2i (x := y1_4) rfl ⟨_, rfl, rfl⟩
-- LP$SceneReader.isNewName, from 113 on
def f82_35_j113 (N : Nat) (I : tI) (J : tJ) (s0 : Int32) : Option (Int32 × tI × tJ) :=
  bif xcmp .eq s0 0 then some (1, I, J) else (match f33_8 I J 3 with | (v6, I6, J6) => bif xcmp .eq v6 0 then some (0, I6, J6) else some (1, I6, J6))
set_option maxRecDepth 100000 in
theorem f82_35_j113_pq {sc : List Int32} {B : xM} {N : Nat} {I : tI} {J : tJ} {s0 : Int32} (hB : kB pT B) : ∀ {X : Option (Int32 × tI × tJ)}, f82_35_j113 N I J s0 = X → pq sc B N (xt_82, 2, 3) 113 [(0, .ref 35)] [.int s0] I J (fun v I1 J1 => ∃ a, v = some (.int a) ∧ X = some (a, I1, J1)) := by
  intro X hq
  unfold f82_35_j113 at hq
  have hle : N ≤ N := Nat.le_refl N
  refine pq_s hB 2 (pc' := 115) (L' := [(1, .int s0), (0, .ref 35)]) (st' := [.int s0]) (I' := I) (J' := J) (by with_unfolding_all rfl) ?_
  refine pq_ifn hB rfl (fun h5 => ?_) (fun h5 => ?_)
  · rw [h5, cond_true] at hq
    refine pq_s hB 2 (pc' := 134) (L' := [(1, .int s0), (0, .ref 35)]) (st' := [.int 1]) (I' := I) (J' := J) (by with_unfolding_all rfl) ?_
    subst hq
    exact pq_2i (x := 1) rfl ⟨_, rfl, rfl⟩
  · rw [h5, cond_false] at hq
    refine pq_s hB 3 (pc' := 123) (L' := [(1, .int s0), (0, .ref 35)]) (st' := [.int 3, .ref 8]) (I' := I) (J' := J) (by with_unfolding_all rfl) ?_
    generalize hc6 : f33_8 I J 3 = q6 at hq
    obtain ⟨v6, _, _⟩ := q6
    dsimp only at hq
    refine pq_1 rfl rfl rfl rfl (f33_8_pq hB hc6) ?_
    rintro _ I6 J6 ⟨rfl, rfl, rfl⟩
    refine pq_ifn hB rfl (fun h7 => ?_) (fun h7 => ?_)
    · rw [h7, cond_true] at hq
      refine pq_s hB 1 (pc' := 134) (L' := [(1, .int s0), (0, .ref 35)]) (st' := [.int 0]) (I' := I6) (J' := J6) (by with_unfolding_all rfl) ?_
      subst hq
      exact pq_2i (x := 0) rfl ⟨_, rfl, rfl⟩
    · rw [h7, cond_false] at hq
      refine pq_s hB 2 (pc' := 134) (L' := [(1, .int s0), (0, .ref 35)]) (st' := [.int 1]) (I' := I6) (J' := J6) (by with_unfolding_all rfl) ?_
      subst hq
      exact pq_2i (x := 1) rfl ⟨_, rfl, rfl⟩
-- LP$SceneReader.isNewName, from 108 on
def f82_35_j108 (N : Nat) (I : tI) (J : tJ) : Option (Int32 × tI × tJ) :=
  f82_35_j113 N I J 1
set_option maxRecDepth 100000 in
theorem f82_35_j108_pq {sc : List Int32} {B : xM} {N : Nat} {I : tI} {J : tJ} (hB : kB pT B) : ∀ {X : Option (Int32 × tI × tJ)}, f82_35_j108 N I J = X → pq sc B N (xt_82, 2, 3) 108 [(0, .ref 35)] [] I J (fun v I1 J1 => ∃ a, v = some (.int a) ∧ X = some (a, I1, J1)) := by
  intro X hq
  unfold f82_35_j108 at hq
  have hle : N ≤ N := Nat.le_refl N
  refine pq_s hB 2 (pc' := 113) (L' := [(0, .ref 35)]) (st' := [.int 1]) (I' := I) (J' := J) (by with_unfolding_all rfl) ?_
  exact f82_35_j113_pq hB hq
-- LP$Reader.indexOf, the loop at 3, to [34, 25]
def f40_48_l3 (N : Nat) : Nat → tI → tJ → Int32 → Int64 → Int32 → Option (Nat × Int32 × Int64 × Int32 × tI × tJ)
  | 0, _, _, _, _, _ => none
  | k + 1, I, J, x1, x2, x4 =>
    bif xcmp .ge x4 x1 then some (0, x1, x2, x4, I, J) else bif xcmp .ge x4 6 then some (0, x1, x2, x4, I, J) else bif xcmp .ne (lg_cmp (J 48 (x4).toNatClampNeg) x2) 0 then f40_48_l3 N k I J x1 x2 (x4 + 1) else some (1, x1, x2, x4, I, J)
set_option maxRecDepth 100000 in
theorem f40_48_l3_pq {sc : List Int32} {B : xM} {N : Nat} {P : Option Value → tI → tJ → Prop} (hB : kB pT B) : ∀ (k : Nat), k ≤ N → ∀ (b m : Nat), b ≤ k → b ≤ m → ∀ {I : tI} {J : tJ} {x1 : Int32} {x2 : Int64} {x4 : Int32} {Y : Option (Nat × Int32 × Int64 × Int32 × tI × tJ)}, f40_48_l3 N k I J x1 x2 x4 = Y → (∀ {y1 : Int32} {y2 : Int64} {y4 : Int32} {I1 : tI} {J1 : tJ}, Y = some (0, y1, y2, y4, I1, J1) → pq sc B m (xt_40, 5, 1) 34 [(0, .ref 48), (1, .int y1), (2, .long y2), (4, .int y4)] [] I1 J1 P) → (∀ {y1 : Int32} {y2 : Int64} {y4 : Int32} {I1 : tI} {J1 : tJ}, Y = some (1, y1, y2, y4, I1, J1) → pq sc B m (xt_40, 5, 1) 25 [(0, .ref 48), (1, .int y1), (2, .long y2), (4, .int y4)] [] I1 J1 P) → pq sc B b (xt_40, 5, 1) 3 [(0, .ref 48), (1, .int x1), (2, .long x2), (4, .int x4)] [] I J P
  | 0, _, b, _, hb, _, _, _, _, _, _, _, _, _, _ => by
    have e : b = 0 := by omega
    subst e
    exact pq_zero
  | _ + 1, _, 0, _, _, _, _, _, _, _, _, _, _, _, _ => pq_zero
  | k + 1, hk, b + 1, m, hb, hm, I, J, x1, x2, x4, Y, hq, hx0, hx1 => by
    unfold f40_48_l3 at hq
    have hle : b ≤ N := by omega
    refine pq_s1 hB 1 (pc' := 6) (L' := [(0, .ref 48), (1, .int x1), (2, .long x2), (4, .int x4)]) (st' := [.int x1, .int x4]) (I' := I) (J' := J) (by with_unfolding_all rfl) ?_
    refine pq_icn hB rfl (fun h1 => ?_) (fun h1 => ?_)
    · rw [h1, cond_true] at hq
      exact pq_le (by omega) (hx0 hq.symm)
    · rw [h1, cond_false] at hq
      refine pq_s hB 3 (pc' := 13) (L' := [(0, .ref 48), (1, .int x1), (2, .long x2), (4, .int x4)]) (st' := [.int 6, .int x4]) (I' := I) (J' := J) (by with_unfolding_all rfl) ?_
      refine pq_icn hB rfl (fun h2 => ?_) (fun h2 => ?_)
      · rw [h2, cond_true] at hq
        exact pq_le (by omega) (hx0 hq.symm)
      · rw [h2, cond_false] at hq
        refine pq_s hB 5 (pc' := 22) (L' := [(0, .ref 48), (1, .int x1), (2, .long x2), (4, .int x4)]) (st' := [.int (lg_cmp (J 48 (x4).toNatClampNeg) x2)]) (I' := I) (J' := J) (by with_unfolding_all rfl) ?_
        refine pq_ifn hB rfl (fun h3 => ?_) (fun h3 => ?_)
        · rw [h3, cond_true] at hq
          refine pq_s hB 2 (pc' := 3) (L' := [(4, .int (x4 + 1)), (0, .ref 48), (1, .int x1), (2, .long x2)]) (st' := []) (I' := I) (J' := J) (by with_unfolding_all rfl) ?_
          refine pq_perm (L := [(0, .ref 48), (1, .int x1), (2, .long x2), (4, .int (x4 + 1))]) (leqn_of ⟨rfl, rfl, rfl, rfl, trivial⟩ ⟨rfl, rfl, rfl, rfl, trivial⟩ ⟨rfl, rfl, rfl, rfl, trivial⟩) ?_
          exact f40_48_l3_pq hB k (by omega) b m (by omega) (by omega) hq hx0 hx1
        · rw [h3, cond_false] at hq
          exact pq_le (by omega) (hx1 hq.symm)
-- LP$Reader.indexOf
def f40_48 (N : Nat) (I : tI) (J : tJ) (a0 : Int32) (a1 : Int64) : Option (Int32 × tI × tJ) :=
  (match f40_48_l3 N N I J a0 a1 0 with | none => none | some (k1, y1_1, y1_2, y1_4, I1, J1) => bif Nat.beq k1 0 then (some ((-1), I1, J1)) else some (y1_4, I1, J1))
set_option maxRecDepth 100000 in
theorem f40_48_pq {sc : List Int32} {B : xM} {N : Nat} {I : tI} {J : tJ} {a0 : Int32} {a1 : Int64} (hB : kB pT B) : ∀ {X : Option (Int32 × tI × tJ)}, f40_48 N I J a0 a1 = X → pq sc B N (xt_40, 5, 1) 0 [(0, .ref 48), (1, .int a0), (2, .long a1)] [] I J (fun v I1 J1 => ∃ a, v = some (.int a) ∧ X = some (a, I1, J1)) := by
  intro X hq
  unfold f40_48 at hq
  have hle : N ≤ N := Nat.le_refl N
  refine pq_s hB 2 (pc' := 3) (L' := [(4, .int 0), (0, .ref 48), (1, .int a0), (2, .long a1)]) (st' := []) (I' := I) (J' := J) (by with_unfolding_all rfl) ?_
  refine pq_perm (L := [(0, .ref 48), (1, .int a0), (2, .long a1), (4, .int 0)]) (leqn_of ⟨rfl, rfl, rfl, rfl, trivial⟩ ⟨rfl, rfl, rfl, rfl, trivial⟩ ⟨rfl, rfl, rfl, rfl, trivial⟩) ?_
  refine f40_48_l3_pq hB N (Nat.le_refl N) N N hle (Nat.le_refl N) rfl ?_ ?_
  ·
    intro y1_1 y1_2 y1_4 I1 J1 hc1
    rw [hc1] at hq
    dsimp only at hq
    rw [show Nat.beq 0 0 = true from rfl, cond_true] at hq
    refine pq_s hB 1 (pc' := 35) (L' := [(0, .ref 48), (1, .int y1_1), (2, .long y1_2), (4, .int y1_4)]) (st' := [.int (-1)]) (I' := I1) (J' := J1) (by with_unfolding_all rfl) ?_
    subst hq
    exact pq_2i (x := (-1)) rfl ⟨_, rfl, rfl⟩
  ·
    intro y1_1 y1_2 y1_4 I1 J1 hc1
    rw [hc1] at hq
    dsimp only at hq
    rw [show Nat.beq 1 0 = false from rfl, cond_false] at hq
    refine pq_s hB 1 (pc' := 27) (L' := [(0, .ref 48), (1, .int y1_1), (2, .long y1_2), (4, .int y1_4)]) (st' := [.int y1_4]) (I' := I1) (J' := J1) (by with_unfolding_all rfl) ?_
    subst hq
    exact pq_2i (x := y1_4) rfl ⟨_, rfl, rfl⟩
-- LP$Reader.indexOf, the loop at 3, to [34, 25]
def f40_57_l3 (N : Nat) : Nat → tI → tJ → Int32 → Int64 → Int32 → Option (Nat × Int32 × Int64 × Int32 × tI × tJ)
  | 0, _, _, _, _, _ => none
  | k + 1, I, J, x1, x2, x4 =>
    bif xcmp .ge x4 x1 then some (0, x1, x2, x4, I, J) else bif xcmp .ge x4 4 then some (0, x1, x2, x4, I, J) else bif xcmp .ne (lg_cmp (J 57 (x4).toNatClampNeg) x2) 0 then f40_57_l3 N k I J x1 x2 (x4 + 1) else some (1, x1, x2, x4, I, J)
set_option maxRecDepth 100000 in
theorem f40_57_l3_pq {sc : List Int32} {B : xM} {N : Nat} {P : Option Value → tI → tJ → Prop} (hB : kB pT B) : ∀ (k : Nat), k ≤ N → ∀ (b m : Nat), b ≤ k → b ≤ m → ∀ {I : tI} {J : tJ} {x1 : Int32} {x2 : Int64} {x4 : Int32} {Y : Option (Nat × Int32 × Int64 × Int32 × tI × tJ)}, f40_57_l3 N k I J x1 x2 x4 = Y → (∀ {y1 : Int32} {y2 : Int64} {y4 : Int32} {I1 : tI} {J1 : tJ}, Y = some (0, y1, y2, y4, I1, J1) → pq sc B m (xt_40, 5, 1) 34 [(0, .ref 57), (1, .int y1), (2, .long y2), (4, .int y4)] [] I1 J1 P) → (∀ {y1 : Int32} {y2 : Int64} {y4 : Int32} {I1 : tI} {J1 : tJ}, Y = some (1, y1, y2, y4, I1, J1) → pq sc B m (xt_40, 5, 1) 25 [(0, .ref 57), (1, .int y1), (2, .long y2), (4, .int y4)] [] I1 J1 P) → pq sc B b (xt_40, 5, 1) 3 [(0, .ref 57), (1, .int x1), (2, .long x2), (4, .int x4)] [] I J P
  | 0, _, b, _, hb, _, _, _, _, _, _, _, _, _, _ => by
    have e : b = 0 := by omega
    subst e
    exact pq_zero
  | _ + 1, _, 0, _, _, _, _, _, _, _, _, _, _, _, _ => pq_zero
  | k + 1, hk, b + 1, m, hb, hm, I, J, x1, x2, x4, Y, hq, hx0, hx1 => by
    unfold f40_57_l3 at hq
    have hle : b ≤ N := by omega
    refine pq_s1 hB 1 (pc' := 6) (L' := [(0, .ref 57), (1, .int x1), (2, .long x2), (4, .int x4)]) (st' := [.int x1, .int x4]) (I' := I) (J' := J) (by with_unfolding_all rfl) ?_
    refine pq_icn hB rfl (fun h1 => ?_) (fun h1 => ?_)
    · rw [h1, cond_true] at hq
      exact pq_le (by omega) (hx0 hq.symm)
    · rw [h1, cond_false] at hq
      refine pq_s hB 3 (pc' := 13) (L' := [(0, .ref 57), (1, .int x1), (2, .long x2), (4, .int x4)]) (st' := [.int 4, .int x4]) (I' := I) (J' := J) (by with_unfolding_all rfl) ?_
      refine pq_icn hB rfl (fun h2 => ?_) (fun h2 => ?_)
      · rw [h2, cond_true] at hq
        exact pq_le (by omega) (hx0 hq.symm)
      · rw [h2, cond_false] at hq
        refine pq_s hB 5 (pc' := 22) (L' := [(0, .ref 57), (1, .int x1), (2, .long x2), (4, .int x4)]) (st' := [.int (lg_cmp (J 57 (x4).toNatClampNeg) x2)]) (I' := I) (J' := J) (by with_unfolding_all rfl) ?_
        refine pq_ifn hB rfl (fun h3 => ?_) (fun h3 => ?_)
        · rw [h3, cond_true] at hq
          refine pq_s hB 2 (pc' := 3) (L' := [(4, .int (x4 + 1)), (0, .ref 57), (1, .int x1), (2, .long x2)]) (st' := []) (I' := I) (J' := J) (by with_unfolding_all rfl) ?_
          refine pq_perm (L := [(0, .ref 57), (1, .int x1), (2, .long x2), (4, .int (x4 + 1))]) (leqn_of ⟨rfl, rfl, rfl, rfl, trivial⟩ ⟨rfl, rfl, rfl, rfl, trivial⟩ ⟨rfl, rfl, rfl, rfl, trivial⟩) ?_
          exact f40_57_l3_pq hB k (by omega) b m (by omega) (by omega) hq hx0 hx1
        · rw [h3, cond_false] at hq
          exact pq_le (by omega) (hx1 hq.symm)
-- LP$Reader.indexOf
def f40_57 (N : Nat) (I : tI) (J : tJ) (a0 : Int32) (a1 : Int64) : Option (Int32 × tI × tJ) :=
  (match f40_57_l3 N N I J a0 a1 0 with | none => none | some (k1, y1_1, y1_2, y1_4, I1, J1) => bif Nat.beq k1 0 then (some ((-1), I1, J1)) else some (y1_4, I1, J1))
set_option maxRecDepth 100000 in
theorem f40_57_pq {sc : List Int32} {B : xM} {N : Nat} {I : tI} {J : tJ} {a0 : Int32} {a1 : Int64} (hB : kB pT B) : ∀ {X : Option (Int32 × tI × tJ)}, f40_57 N I J a0 a1 = X → pq sc B N (xt_40, 5, 1) 0 [(0, .ref 57), (1, .int a0), (2, .long a1)] [] I J (fun v I1 J1 => ∃ a, v = some (.int a) ∧ X = some (a, I1, J1)) := by
  intro X hq
  unfold f40_57 at hq
  have hle : N ≤ N := Nat.le_refl N
  refine pq_s hB 2 (pc' := 3) (L' := [(4, .int 0), (0, .ref 57), (1, .int a0), (2, .long a1)]) (st' := []) (I' := I) (J' := J) (by with_unfolding_all rfl) ?_
  refine pq_perm (L := [(0, .ref 57), (1, .int a0), (2, .long a1), (4, .int 0)]) (leqn_of ⟨rfl, rfl, rfl, rfl, trivial⟩ ⟨rfl, rfl, rfl, rfl, trivial⟩ ⟨rfl, rfl, rfl, rfl, trivial⟩) ?_
  refine f40_57_l3_pq hB N (Nat.le_refl N) N N hle (Nat.le_refl N) rfl ?_ ?_
  ·
    intro y1_1 y1_2 y1_4 I1 J1 hc1
    rw [hc1] at hq
    dsimp only at hq
    rw [show Nat.beq 0 0 = true from rfl, cond_true] at hq
    refine pq_s hB 1 (pc' := 35) (L' := [(0, .ref 57), (1, .int y1_1), (2, .long y1_2), (4, .int y1_4)]) (st' := [.int (-1)]) (I' := I1) (J' := J1) (by with_unfolding_all rfl) ?_
    subst hq
    exact pq_2i (x := (-1)) rfl ⟨_, rfl, rfl⟩
  ·
    intro y1_1 y1_2 y1_4 I1 J1 hc1
    rw [hc1] at hq
    dsimp only at hq
    rw [show Nat.beq 1 0 = false from rfl, cond_false] at hq
    refine pq_s hB 1 (pc' := 27) (L' := [(0, .ref 57), (1, .int y1_1), (2, .long y1_2), (4, .int y1_4)]) (st' := [.int y1_4]) (I' := I1) (J' := J1) (by with_unfolding_all rfl) ?_
    subst hq
    exact pq_2i (x := y1_4) rfl ⟨_, rfl, rfl⟩
-- LP$SceneReader.isNewName
def f82_35 (N : Nat) (I : tI) (J : tJ) : Option (Int32 × tI × tJ) :=
  (match f38_8 I J with | (v1, I1, J1) => bif xcmp .ne v1 0 then (match f40_39 N I1 J1 (I1 38 0) (J1 8 6) with | none => none | some (v3, I3, J3) => bif xcmp .ne v3 (-1) then f82_35_j108 N I3 J3 else (match f40_48 N I3 J3 (I3 47 0) (J3 8 6) with | none => none | some (v5, I5, J5) => bif xcmp .ne v5 (-1) then f82_35_j108 N I5 J5 else (match f40_57 N I5 J5 (I5 36 6) (J5 8 6) with | none => none | some (v7, I7, J7) => bif xcmp .eq v7 (-1) then f82_35_j113 N I7 J7 0 else f82_35_j108 N I7 J7))) else some (0, I1, J1))
set_option maxRecDepth 100000 in
theorem f82_35_pq {sc : List Int32} {B : xM} {N : Nat} {I : tI} {J : tJ} (hB : kB pT B) : ∀ {X : Option (Int32 × tI × tJ)}, f82_35 N I J = X → pq sc B N (xt_82, 2, 3) 0 [(0, .ref 35)] [] I J (fun v I1 J1 => ∃ a, v = some (.int a) ∧ X = some (a, I1, J1)) := by
  intro X hq
  unfold f82_35 at hq
  have hle : N ≤ N := Nat.le_refl N
  refine pq_s hB 2 (pc' := 4) (L' := [(0, .ref 35)]) (st' := [.ref 8]) (I' := I) (J' := J) (by with_unfolding_all rfl) ?_
  generalize hc1 : f38_8 I J = q1 at hq
  obtain ⟨v1, _, _⟩ := q1
  dsimp only at hq
  refine pq_1 rfl rfl rfl rfl (f38_8_pq hB hc1) ?_
  rintro _ I1 J1 ⟨rfl, rfl, rfl⟩
  refine pq_ifn hB rfl (fun h2 => ?_) (fun h2 => ?_)
  · rw [h2, cond_true] at hq
    refine pq_s hB 11 (pc' := 39) (L' := [(0, .ref 35)]) (st' := [.long (J1 8 6), .int (I1 38 0), .ref 39]) (I' := I1) (J' := J1) (by with_unfolding_all rfl) ?_
    refine pq_1 rfl rfl rfl rfl (pq_le hle (f40_39_pq hB rfl)) ?_
    rintro _ I3 J3 ⟨v3, rfl, hc3⟩
    rw [hc3] at hq
    dsimp only at hq
    refine pq_s hB 1 (pc' := 43) (L' := [(0, .ref 35)]) (st' := [.int (-1), .int v3]) (I' := I3) (J' := J3) (by with_unfolding_all rfl) ?_
    refine pq_icn hB rfl (fun h4 => ?_) (fun h4 => ?_)
    · rw [h4, cond_true] at hq
      exact f82_35_j108_pq hB hq
    · rw [h4, cond_false] at hq
      refine pq_s hB 11 (pc' := 73) (L' := [(0, .ref 35)]) (st' := [.long (J3 8 6), .int (I3 47 0), .ref 48]) (I' := I3) (J' := J3) (by with_unfolding_all rfl) ?_
      refine pq_1 rfl rfl rfl rfl (pq_le hle (f40_48_pq hB rfl)) ?_
      rintro _ I5 J5 ⟨v5, rfl, hc5⟩
      rw [hc5] at hq
      dsimp only at hq
      refine pq_s hB 1 (pc' := 77) (L' := [(0, .ref 35)]) (st' := [.int (-1), .int v5]) (I' := I5) (J' := J5) (by with_unfolding_all rfl) ?_
      refine pq_icn hB rfl (fun h6 => ?_) (fun h6 => ?_)
      · rw [h6, cond_true] at hq
        exact f82_35_j108_pq hB hq
      · rw [h6, cond_false] at hq
        refine pq_s hB 9 (pc' := 101) (L' := [(0, .ref 35)]) (st' := [.long (J5 8 6), .int (I5 36 6), .ref 57]) (I' := I5) (J' := J5) (by with_unfolding_all rfl) ?_
        refine pq_1 rfl rfl rfl rfl (pq_le hle (f40_57_pq hB rfl)) ?_
        rintro _ I7 J7 ⟨v7, rfl, hc7⟩
        rw [hc7] at hq
        dsimp only at hq
        refine pq_s hB 1 (pc' := 105) (L' := [(0, .ref 35)]) (st' := [.int (-1), .int v7]) (I' := I7) (J' := J7) (by with_unfolding_all rfl) ?_
        refine pq_icn hB rfl (fun h8 => ?_) (fun h8 => ?_)
        · rw [h8, cond_true] at hq
          refine pq_s hB 1 (pc' := 113) (L' := [(0, .ref 35)]) (st' := [.int 0]) (I' := I7) (J' := J7) (by with_unfolding_all rfl) ?_
          exact f82_35_j113_pq hB hq
        · rw [h8, cond_false] at hq
          exact f82_35_j108_pq hB hq
  · rw [h2, cond_false] at hq
    refine pq_s hB 1 (pc' := 11) (L' := [(0, .ref 35)]) (st' := [.int 0]) (I' := I1) (J' := J1) (by with_unfolding_all rfl) ?_
    subst hq
    exact pq_2i (x := 0) rfl ⟨_, rfl, rfl⟩
-- LP$SceneReader.readTimes, from 76 on
def f84_35_j76 (N : Nat) (I : tI) (J : tJ) (x1 : Int32) : Option (Int32 × tI × tJ) :=
  bif xcmp .ne (I 8 5) 8 then some (1, I, J) else (match f25_8 N I J with | none => none | some (_, I3, J3) => (match f37_8 I3 J3 1 999 with | (v4, I4, J4) => bif xcmp .ne v4 0 then (match f25_8 N (tup I4 42 ((x1).toNatClampNeg) (I4 8 7)) J4 with | none => none | some (_, I6, J6) => some (1, I6, J6)) else some (0, I4, J4)))
set_option maxRecDepth 100000 in
theorem f84_35_j76_pq {sc : List Int32} {B : xM} {N : Nat} {I : tI} {J : tJ} {x1 : Int32} (hB : kB pT B) : ∀ {X : Option (Int32 × tI × tJ)}, f84_35_j76 N I J x1 = X → pq sc B N (xt_84, 3, 3) 76 [(0, .ref 35), (1, .int x1), (2, .ref 38)] [] I J (fun v I1 J1 => ∃ a, v = some (.int a) ∧ X = some (a, I1, J1)) := by
  intro X hq
  unfold f84_35_j76 at hq
  have hle : N ≤ N := Nat.le_refl N
  refine pq_s hB 4 (pc' := 85) (L' := [(0, .ref 35), (1, .int x1), (2, .ref 38)]) (st' := [.int 8, .int (I 8 5)]) (I' := I) (J' := J) (by with_unfolding_all rfl) ?_
  refine pq_icn hB rfl (fun h2 => ?_) (fun h2 => ?_)
  · rw [h2, cond_true] at hq
    refine pq_s hB 1 (pc' := 132) (L' := [(0, .ref 35), (1, .int x1), (2, .ref 38)]) (st' := [.int 1]) (I' := I) (J' := J) (by with_unfolding_all rfl) ?_
    subst hq
    exact pq_2i (x := 1) rfl ⟨_, rfl, rfl⟩
  · rw [h2, cond_false] at hq
    refine pq_s hB 2 (pc' := 92) (L' := [(0, .ref 35), (1, .int x1), (2, .ref 38)]) (st' := [.ref 8]) (I' := I) (J' := J) (by with_unfolding_all rfl) ?_
    refine pq_1 rfl rfl rfl rfl (pq_le hle (f25_8_pq hB rfl)) ?_
    rintro _ I3 J3 ⟨rfl, hc3⟩
    rw [hc3] at hq
    dsimp only at hq
    refine pq_s hB 4 (pc' := 103) (L' := [(0, .ref 35), (1, .int x1), (2, .ref 38)]) (st' := [.int 999, .int 1, .ref 8]) (I' := I3) (J' := J3) (by with_unfolding_all rfl) ?_
    generalize hc4 : f37_8 I3 J3 1 999 = q4 at hq
    obtain ⟨v4, _, _⟩ := q4
    dsimp only at hq
    refine pq_1 rfl rfl rfl rfl (f37_8_pq hB hc4) ?_
    rintro _ I4 J4 ⟨rfl, rfl, rfl⟩
    refine pq_ifn hB rfl (fun h5 => ?_) (fun h5 => ?_)
    · rw [h5, cond_true] at hq
      refine pq_s hB 9 (pc' := 128) (L' := [(0, .ref 35), (1, .int x1), (2, .ref 38)]) (st' := [.ref 8]) (I' := (tup I4 42 ((x1).toNatClampNeg) (I4 8 7))) (J' := J4) (by with_unfolding_all rfl) ?_
      refine pq_1 rfl rfl rfl rfl (pq_le hle (f25_8_pq hB rfl)) ?_
      rintro _ I6 J6 ⟨rfl, hc6⟩
      rw [hc6] at hq
      dsimp only at hq
      refine pq_s hB 1 (pc' := 132) (L' := [(0, .ref 35), (1, .int x1), (2, .ref 38)]) (st' := [.int 1]) (I' := I6) (J' := J6) (by with_unfolding_all rfl) ?_
      subst hq
      exact pq_2i (x := 1) rfl ⟨_, rfl, rfl⟩
    · rw [h5, cond_false] at hq
      refine pq_s hB 1 (pc' := 110) (L' := [(0, .ref 35), (1, .int x1), (2, .ref 38)]) (st' := [.int 0]) (I' := I4) (J' := J4) (by with_unfolding_all rfl) ?_
      subst hq
      exact pq_2i (x := 0) rfl ⟨_, rfl, rfl⟩
-- LP$SceneReader.readTimes
def f84_35 (N : Nat) (I : tI) (J : tJ) (a0 : Int32) : Option (Int32 × tI × tJ) :=
  bif xcmp .ne (I 8 5) 7 then f84_35_j76 N (tup (tup I 41 ((a0).toNatClampNeg) 0) 42 ((a0).toNatClampNeg) (-1)) J a0 else (match f25_8 N (tup (tup I 41 ((a0).toNatClampNeg) 0) 42 ((a0).toNatClampNeg) (-1)) J with | none => none | some (_, I2, J2) => (match f37_8 I2 J2 0 99 with | (v3, I3, J3) => bif xcmp .ne v3 0 then (match f25_8 N (tup I3 41 ((a0).toNatClampNeg) (I3 8 7)) J3 with | none => none | some (_, I5, J5) => f84_35_j76 N I5 J5 a0) else some (0, I3, J3)))
set_option maxRecDepth 100000 in
theorem f84_35_pq {sc : List Int32} {B : xM} {N : Nat} {I : tI} {J : tJ} {a0 : Int32} (hB : kB pT B) : ∀ {X : Option (Int32 × tI × tJ)}, f84_35 N I J a0 = X → pq sc B N (xt_84, 3, 3) 0 [(0, .ref 35), (1, .int a0)] [] I J (fun v I1 J1 => ∃ a, v = some (.int a) ∧ X = some (a, I1, J1)) := by
  intro X hq
  unfold f84_35 at hq
  have hle : N ≤ N := Nat.le_refl N
  refine pq_s hB 18 (pc' := 31) (L' := [(2, .ref 38), (0, .ref 35), (1, .int a0)]) (st' := [.int 7, .int (I 8 5)]) (I' := (tup (tup I 41 ((a0).toNatClampNeg) 0) 42 ((a0).toNatClampNeg) (-1))) (J' := J) (by with_unfolding_all rfl) ?_
  refine pq_icn hB rfl (fun h1 => ?_) (fun h1 => ?_)
  · rw [h1, cond_true] at hq
    refine pq_perm (L := [(0, .ref 35), (1, .int a0), (2, .ref 38)]) (leqn_of ⟨rfl, rfl, rfl, trivial⟩ ⟨rfl, rfl, rfl, trivial⟩ ⟨rfl, rfl, rfl, trivial⟩) ?_
    exact f84_35_j76_pq hB hq
  · rw [h1, cond_false] at hq
    refine pq_s hB 2 (pc' := 38) (L' := [(2, .ref 38), (0, .ref 35), (1, .int a0)]) (st' := [.ref 8]) (I' := (tup (tup I 41 ((a0).toNatClampNeg) 0) 42 ((a0).toNatClampNeg) (-1))) (J' := J) (by with_unfolding_all rfl) ?_
    refine pq_1 rfl rfl rfl rfl (pq_le hle (f25_8_pq hB rfl)) ?_
    rintro _ I2 J2 ⟨rfl, hc2⟩
    rw [hc2] at hq
    dsimp only at hq
    refine pq_s hB 4 (pc' := 48) (L' := [(2, .ref 38), (0, .ref 35), (1, .int a0)]) (st' := [.int 99, .int 0, .ref 8]) (I' := I2) (J' := J2) (by with_unfolding_all rfl) ?_
    generalize hc3 : f37_8 I2 J2 0 99 = q3 at hq
    obtain ⟨v3, _, _⟩ := q3
    dsimp only at hq
    refine pq_1 rfl rfl rfl rfl (f37_8_pq hB hc3) ?_
    rintro _ I3 J3 ⟨rfl, rfl, rfl⟩
    refine pq_ifn hB rfl (fun h4 => ?_) (fun h4 => ?_)
    · rw [h4, cond_true] at hq
      refine pq_s hB 9 (pc' := 73) (L' := [(2, .ref 38), (0, .ref 35), (1, .int a0)]) (st' := [.ref 8]) (I' := (tup I3 41 ((a0).toNatClampNeg) (I3 8 7))) (J' := J3) (by with_unfolding_all rfl) ?_
      refine pq_1 rfl rfl rfl rfl (pq_le hle (f25_8_pq hB rfl)) ?_
      rintro _ I5 J5 ⟨rfl, hc5⟩
      rw [hc5] at hq
      dsimp only at hq
      refine pq_perm (L := [(0, .ref 35), (1, .int a0), (2, .ref 38)]) (leqn_of ⟨rfl, rfl, rfl, trivial⟩ ⟨rfl, rfl, rfl, trivial⟩ ⟨rfl, rfl, rfl, trivial⟩) ?_
      exact f84_35_j76_pq hB hq
    · rw [h4, cond_false] at hq
      refine pq_s hB 1 (pc' := 55) (L' := [(2, .ref 38), (0, .ref 35), (1, .int a0)]) (st' := [.int 0]) (I' := I3) (J' := J3) (by with_unfolding_all rfl) ?_
      subst hq
      exact pq_2i (x := 0) rfl ⟨_, rfl, rfl⟩
-- LP$SceneReader.isStep
def f85_35 (I : tI) (J : tJ) : Int32 × tI × tJ :=
  (match f127 I J (I 8 5) 16 20 with | (v1, I1, J1) => (v1, I1, J1))
set_option maxRecDepth 100000 in
theorem f85_35_pq {sc : List Int32} {B : xM} {n : Nat} {I : tI} {J : tJ} (hB : kB pT B) : ∀ {q : Int32 × tI × tJ}, f85_35 I J = q → pq sc B n (xt_85, 1, 3) 0 [(0, .ref 35)] [] I J (fun v I1 J1 => v = some (.int q.1) ∧ I1 = q.2.1 ∧ J1 = q.2.2) := by
  intro q hq
  unfold f85_35 at hq
  refine pq_s hB 5 (pc' := 11) (L' := [(0, .ref 35)]) (st' := [.int 20, .int 16, .int (I 8 5)]) (I' := I) (J' := J) (by with_unfolding_all rfl) ?_
  generalize hc1 : f127 I J (I 8 5) 16 20 = q1 at hq
  obtain ⟨v1, _, _⟩ := q1
  dsimp only at hq
  refine pq_1 rfl rfl rfl rfl (f127_pq hB hc1) ?_
  rintro _ I1 J1 ⟨rfl, rfl, rfl⟩
  subst hq
  exact pq_2i (x := v1) rfl ⟨rfl, rfl, rfl⟩
-- LP$SceneReader.readSteps, the loop at 2, to [55]
def f86_35_l2 (N : Nat) : Nat → tI → tJ → Int32 → Int32 → Option (Int32 × Int32 × tI × tJ)
  | 0, _, _, _, _ => none
  | k + 1, I, J, x1, x2 =>
    bif xcmp .ge x2 8 then some (x1, x2, I, J) else (match f85_35 I J with | (v2, I2, J2) => bif xcmp .eq v2 0 then some (x1, x2, I2, J2) else (match f25_8 N (tup I2 44 ((((x1 * 8) + x2)).toNatClampNeg) ((I2 8 5) - 16)) J2 with | none => none | some (_, I4, J4) => f86_35_l2 N k I4 J4 x1 (x2 + 1)))
set_option maxRecDepth 100000 in
theorem f86_35_l2_pq {sc : List Int32} {B : xM} {N : Nat} {P : Option Value → tI → tJ → Prop} (hB : kB pT B) : ∀ (k : Nat), k ≤ N → ∀ (b m : Nat), b ≤ k → b ≤ m → ∀ {I : tI} {J : tJ} {x1 : Int32} {x2 : Int32} {Y : Option (Int32 × Int32 × tI × tJ)}, f86_35_l2 N k I J x1 x2 = Y → (∀ {y1 : Int32} {y2 : Int32} {I1 : tI} {J1 : tJ}, Y = some (y1, y2, I1, J1) → pq sc B m (xt_86, 3, 3) 55 [(0, .ref 35), (1, .int y1), (2, .int y2)] [] I1 J1 P) → pq sc B b (xt_86, 3, 3) 2 [(0, .ref 35), (1, .int x1), (2, .int x2)] [] I J P
  | 0, _, b, _, hb, _, _, _, _, _, _, _, _ => by
    have e : b = 0 := by omega
    subst e
    exact pq_zero
  | _ + 1, _, 0, _, _, _, _, _, _, _, _, _, _ => pq_zero
  | k + 1, hk, b + 1, m, hb, hm, I, J, x1, x2, Y, hq, hx0 => by
    unfold f86_35_l2 at hq
    have hle : b ≤ N := by omega
    refine pq_s1 hB 1 (pc' := 5) (L' := [(0, .ref 35), (1, .int x1), (2, .int x2)]) (st' := [.int 8, .int x2]) (I' := I) (J' := J) (by with_unfolding_all rfl) ?_
    refine pq_icn hB rfl (fun h1 => ?_) (fun h1 => ?_)
    · rw [h1, cond_true] at hq
      exact pq_le (by omega) (hx0 hq.symm)
    · rw [h1, cond_false] at hq
      refine pq_s hB 1 (pc' := 9) (L' := [(0, .ref 35), (1, .int x1), (2, .int x2)]) (st' := [.ref 35]) (I' := I) (J' := J) (by with_unfolding_all rfl) ?_
      generalize hc2 : f85_35 I J = q2 at hq
      obtain ⟨v2, _, _⟩ := q2
      dsimp only at hq
      refine pq_1 rfl rfl rfl rfl (f85_35_pq hB hc2) ?_
      rintro _ I2 J2 ⟨rfl, rfl, rfl⟩
      refine pq_ifn hB rfl (fun h3 => ?_) (fun h3 => ?_)
      · rw [h3, cond_true] at hq
        exact pq_le (by omega) (hx0 hq.symm)
      · rw [h3, cond_false] at hq
        refine pq_s hB 18 (pc' := 49) (L' := [(2, .int (x2 + 1)), (0, .ref 35), (1, .int x1)]) (st' := [.ref 8]) (I' := (tup I2 44 ((((x1 * 8) + x2)).toNatClampNeg) ((I2 8 5) - 16))) (J' := J2) (by with_unfolding_all rfl) ?_
        refine pq_1 rfl rfl rfl rfl (pq_le hle (f25_8_pq hB rfl)) ?_
        rintro _ I4 J4 ⟨rfl, hc4⟩
        rw [hc4] at hq
        dsimp only at hq
        refine pq_s hB 1 (pc' := 2) (L' := [(2, .int (x2 + 1)), (0, .ref 35), (1, .int x1)]) (st' := []) (I' := I4) (J' := J4) (by with_unfolding_all rfl) ?_
        refine pq_perm (L := [(0, .ref 35), (1, .int x1), (2, .int (x2 + 1))]) (leqn_of ⟨rfl, rfl, rfl, trivial⟩ ⟨rfl, rfl, rfl, trivial⟩ ⟨rfl, rfl, rfl, trivial⟩) ?_
        exact f86_35_l2_pq hB k (by omega) b m (by omega) (by omega) hq hx0
-- LP$SceneReader.readSteps, from 55 on
def f86_35_j55 (N : Nat) (I : tI) (J : tJ) (x1 : Int32) (x2 : Int32) : Option (Int32 × tI × tJ) :=
  (match f85_35 (tup I 43 ((x1).toNatClampNeg) x2) J with | (v2, I2, J2) => bif xcmp .eq v2 0 then (bif xcmp .gt x2 0 then some (1, I2, J2) else (match f33_8 I2 J2 2 with | (v5, I5, J5) => bif xcmp .eq v5 0 then some (0, I5, J5) else some (1, I5, J5))) else (match f33_8 I2 J2 6 with | (v7, I7, J7) => some (v7, I7, J7)))
set_option maxRecDepth 100000 in
theorem f86_35_j55_pq {sc : List Int32} {B : xM} {N : Nat} {I : tI} {J : tJ} {x1 : Int32} {x2 : Int32} (hB : kB pT B) : ∀ {X : Option (Int32 × tI × tJ)}, f86_35_j55 N I J x1 x2 = X → pq sc B N (xt_86, 3, 3) 55 [(0, .ref 35), (1, .int x1), (2, .int x2)] [] I J (fun v I1 J1 => ∃ a, v = some (.int a) ∧ X = some (a, I1, J1)) := by
  intro X hq
  unfold f86_35_j55 at hq
  have hle : N ≤ N := Nat.le_refl N
  refine pq_s hB 8 (pc' := 69) (L' := [(0, .ref 35), (1, .int x1), (2, .int x2)]) (st' := [.ref 35]) (I' := (tup I 43 ((x1).toNatClampNeg) x2)) (J' := J) (by with_unfolding_all rfl) ?_
  generalize hc2 : f85_35 (tup I 43 ((x1).toNatClampNeg) x2) J = q2 at hq
  obtain ⟨v2, _, _⟩ := q2
  dsimp only at hq
  refine pq_1 rfl rfl rfl rfl (f85_35_pq hB hc2) ?_
  rintro _ I2 J2 ⟨rfl, rfl, rfl⟩
  refine pq_ifn hB rfl (fun h3 => ?_) (fun h3 => ?_)
  · rw [h3, cond_true] at hq
    refine pq_s hB 1 (pc' := 86) (L' := [(0, .ref 35), (1, .int x1), (2, .int x2)]) (st' := [.int x2]) (I' := I2) (J' := J2) (by with_unfolding_all rfl) ?_
    refine pq_ifn hB rfl (fun h4 => ?_) (fun h4 => ?_)
    · rw [h4, cond_true] at hq
      refine pq_s hB 2 (pc' := 105) (L' := [(0, .ref 35), (1, .int x1), (2, .int x2)]) (st' := [.int 1]) (I' := I2) (J' := J2) (by with_unfolding_all rfl) ?_
      subst hq
      exact pq_2i (x := 1) rfl ⟨_, rfl, rfl⟩
    · rw [h4, cond_false] at hq
      refine pq_s hB 3 (pc' := 94) (L' := [(0, .ref 35), (1, .int x1), (2, .int x2)]) (st' := [.int 2, .ref 8]) (I' := I2) (J' := J2) (by with_unfolding_all rfl) ?_
      generalize hc5 : f33_8 I2 J2 2 = q5 at hq
      obtain ⟨v5, _, _⟩ := q5
      dsimp only at hq
      refine pq_1 rfl rfl rfl rfl (f33_8_pq hB hc5) ?_
      rintro _ I5 J5 ⟨rfl, rfl, rfl⟩
      refine pq_ifn hB rfl (fun h6 => ?_) (fun h6 => ?_)
      · rw [h6, cond_true] at hq
        refine pq_s hB 1 (pc' := 105) (L' := [(0, .ref 35), (1, .int x1), (2, .int x2)]) (st' := [.int 0]) (I' := I5) (J' := J5) (by with_unfolding_all rfl) ?_
        subst hq
        exact pq_2i (x := 0) rfl ⟨_, rfl, rfl⟩
      · rw [h6, cond_false] at hq
        refine pq_s hB 2 (pc' := 105) (L' := [(0, .ref 35), (1, .int x1), (2, .int x2)]) (st' := [.int 1]) (I' := I5) (J' := J5) (by with_unfolding_all rfl) ?_
        subst hq
        exact pq_2i (x := 1) rfl ⟨_, rfl, rfl⟩
  · rw [h3, cond_false] at hq
    refine pq_s hB 3 (pc' := 81) (L' := [(0, .ref 35), (1, .int x1), (2, .int x2)]) (st' := [.int 6, .ref 8]) (I' := I2) (J' := J2) (by with_unfolding_all rfl) ?_
    generalize hc7 : f33_8 I2 J2 6 = q7 at hq
    obtain ⟨v7, _, _⟩ := q7
    dsimp only at hq
    refine pq_1 rfl rfl rfl rfl (f33_8_pq hB hc7) ?_
    rintro _ I7 J7 ⟨rfl, rfl, rfl⟩
    subst hq
    exact pq_2i (x := v7) rfl ⟨_, rfl, rfl⟩
-- LP$SceneReader.readSteps
def f86_35 (N : Nat) (I : tI) (J : tJ) (a0 : Int32) : Option (Int32 × tI × tJ) :=
  (match f86_35_l2 N N I J a0 0 with | none => none | some (y1_1, y1_2, I1, J1) => f86_35_j55 N I1 J1 y1_1 y1_2)
set_option maxRecDepth 100000 in
theorem f86_35_pq {sc : List Int32} {B : xM} {N : Nat} {I : tI} {J : tJ} {a0 : Int32} (hB : kB pT B) : ∀ {X : Option (Int32 × tI × tJ)}, f86_35 N I J a0 = X → pq sc B N (xt_86, 3, 3) 0 [(0, .ref 35), (1, .int a0)] [] I J (fun v I1 J1 => ∃ a, v = some (.int a) ∧ X = some (a, I1, J1)) := by
  intro X hq
  unfold f86_35 at hq
  have hle : N ≤ N := Nat.le_refl N
  refine pq_s hB 2 (pc' := 2) (L' := [(2, .int 0), (0, .ref 35), (1, .int a0)]) (st' := []) (I' := I) (J' := J) (by with_unfolding_all rfl) ?_
  refine pq_perm (L := [(0, .ref 35), (1, .int a0), (2, .int 0)]) (leqn_of ⟨rfl, rfl, rfl, trivial⟩ ⟨rfl, rfl, rfl, trivial⟩ ⟨rfl, rfl, rfl, trivial⟩) ?_
  refine f86_35_l2_pq hB N (Nat.le_refl N) N N hle (Nat.le_refl N) rfl ?_
  intro y1_1 y1_2 I1 J1 hc1
  rw [hc1] at hq
  dsimp only at hq
  exact f86_35_j55_pq hB hq
-- LP$SceneReader.readPerson
def f83_35 (N : Nat) (I : tI) (J : tJ) : Option (Int32 × tI × tJ) :=
  (match f76_35 I J with | (v1, I1, J1) => bif xcmp .ne v1 0 then (bif xcmp .lt (I1 38 0) 5 then (match f25_8 N I1 J1 with | none => none | some (_, I4, J4) => (match f82_35 N I4 J4 with | none => none | some (v5, I5, J5) => bif xcmp .ne v5 0 then (match f25_8 N I5 (tup J5 39 (((I5 38 0)).toNatClampNeg) (J5 8 6)) with | none => none | some (_, I7, J7) => (match f34_8 N I7 J7 6 with | none => none | some (v8, I8, J8) => bif xcmp .eq v8 0 then some (0, I8, J8) else (match f80_35 N I8 J8 with | none => none | some (v10, I10, J10) => bif xcmp .ne v10 0 then (match f84_35 N (tup I10 40 (((I5 38 0)).toNatClampNeg) (I10 35 3)) J10 (I5 38 0) with | none => none | some (v12, I12, J12) => bif xcmp .eq v12 0 then some (0, I12, J12) else (match f34_8 N I12 J12 9 with | none => none | some (v14, I14, J14) => bif xcmp .eq v14 0 then some (0, I14, J14) else (match f86_35 N I14 J14 (I5 38 0) with | none => none | some (v16, I16, J16) => bif xcmp .ne v16 0 then (match f35_8 N (tup I16 38 0 ((I16 38 0) + 1)) J16 with | none => none | some (v18, I18, J18) => some (v18, I18, J18)) else some (0, I16, J16)))) else some (0, I10, J10)))) else some (0, I5, J5))) else (match f33_8 I1 J1 6 with | (v19, I19, J19) => some (v19, I19, J19))) else (match f33_8 I1 J1 2 with | (v20, I20, J20) => some (v20, I20, J20)))
set_option maxRecDepth 100000 in
theorem f83_35_pq {sc : List Int32} {B : xM} {N : Nat} {I : tI} {J : tJ} (hB : kB pT B) : ∀ {X : Option (Int32 × tI × tJ)}, f83_35 N I J = X → pq sc B N (xt_83, 3, 3) 0 [(0, .ref 35)] [] I J (fun v I1 J1 => ∃ a, v = some (.int a) ∧ X = some (a, I1, J1)) := by
  intro X hq
  unfold f83_35 at hq
  have hle : N ≤ N := Nat.le_refl N
  refine pq_s hB 5 (pc' := 9) (L' := [(1, .ref 38), (0, .ref 35)]) (st' := [.ref 35]) (I' := I) (J' := J) (by with_unfolding_all rfl) ?_
  generalize hc1 : f76_35 I J = q1 at hq
  obtain ⟨v1, _, _⟩ := q1
  dsimp only at hq
  refine pq_1 rfl rfl rfl rfl (f76_35_pq hB hc1) ?_
  rintro _ I1 J1 ⟨rfl, rfl, rfl⟩
  refine pq_ifn hB rfl (fun h2 => ?_) (fun h2 => ?_)
  · rw [h2, cond_true] at hq
    refine pq_s hB 3 (pc' := 29) (L' := [(1, .ref 38), (0, .ref 35)]) (st' := [.int 5, .int (I1 38 0)]) (I' := I1) (J' := J1) (by with_unfolding_all rfl) ?_
    refine pq_icn hB rfl (fun h3 => ?_) (fun h3 => ?_)
    · rw [h3, cond_true] at hq
      refine pq_s hB 2 (pc' := 46) (L' := [(1, .ref 38), (0, .ref 35)]) (st' := [.ref 8]) (I' := I1) (J' := J1) (by with_unfolding_all rfl) ?_
      refine pq_1 rfl rfl rfl rfl (pq_le hle (f25_8_pq hB rfl)) ?_
      rintro _ I4 J4 ⟨rfl, hc4⟩
      rw [hc4] at hq
      dsimp only at hq
      refine pq_s hB 1 (pc' := 50) (L' := [(1, .ref 38), (0, .ref 35)]) (st' := [.ref 35]) (I' := I4) (J' := J4) (by with_unfolding_all rfl) ?_
      refine pq_1 rfl rfl rfl rfl (pq_le hle (f82_35_pq hB rfl)) ?_
      rintro _ I5 J5 ⟨v5, rfl, hc5⟩
      rw [hc5] at hq
      dsimp only at hq
      refine pq_ifn hB rfl (fun h6 => ?_) (fun h6 => ?_)
      · rw [h6, cond_true] at hq
        refine pq_s hB 12 (pc' := 80) (L' := [(2, .int (I5 38 0)), (1, .ref 38), (0, .ref 35)]) (st' := [.ref 8]) (I' := I5) (J' := (tup J5 39 (((I5 38 0)).toNatClampNeg) (J5 8 6))) (by with_unfolding_all rfl) ?_
        refine pq_1 rfl rfl rfl rfl (pq_le hle (f25_8_pq hB rfl)) ?_
        rintro _ I7 J7 ⟨rfl, hc7⟩
        rw [hc7] at hq
        dsimp only at hq
        refine pq_s hB 3 (pc' := 89) (L' := [(2, .int (I5 38 0)), (1, .ref 38), (0, .ref 35)]) (st' := [.int 6, .ref 8]) (I' := I7) (J' := J7) (by with_unfolding_all rfl) ?_
        refine pq_1 rfl rfl rfl rfl (pq_le hle (f34_8_pq hB rfl)) ?_
        rintro _ I8 J8 ⟨v8, rfl, hc8⟩
        rw [hc8] at hq
        dsimp only at hq
        refine pq_ifn hB rfl (fun h9 => ?_) (fun h9 => ?_)
        · rw [h9, cond_true] at hq
          refine pq_s hB 1 (pc' := 103) (L' := [(2, .int (I5 38 0)), (1, .ref 38), (0, .ref 35)]) (st' := [.int 0]) (I' := I8) (J' := J8) (by with_unfolding_all rfl) ?_
          subst hq
          exact pq_2i (x := 0) rfl ⟨_, rfl, rfl⟩
        · rw [h9, cond_false] at hq
          refine pq_s hB 1 (pc' := 96) (L' := [(2, .int (I5 38 0)), (1, .ref 38), (0, .ref 35)]) (st' := [.ref 35]) (I' := I8) (J' := J8) (by with_unfolding_all rfl) ?_
          refine pq_1 rfl rfl rfl rfl (pq_le hle (f80_35_pq hB rfl)) ?_
          rintro _ I10 J10 ⟨v10, rfl, hc10⟩
          rw [hc10] at hq
          dsimp only at hq
          refine pq_ifn hB rfl (fun h11 => ?_) (fun h11 => ?_)
          · rw [h11, cond_true] at hq
            refine pq_s hB 8 (pc' := 116) (L' := [(2, .int (I5 38 0)), (1, .ref 38), (0, .ref 35)]) (st' := [.int (I5 38 0), .ref 35]) (I' := (tup I10 40 (((I5 38 0)).toNatClampNeg) (I10 35 3))) (J' := J10) (by with_unfolding_all rfl) ?_
            refine pq_1 rfl rfl rfl rfl (pq_le hle (f84_35_pq hB rfl)) ?_
            rintro _ I12 J12 ⟨v12, rfl, hc12⟩
            rw [hc12] at hq
            dsimp only at hq
            refine pq_ifn hB rfl (fun h13 => ?_) (fun h13 => ?_)
            · rw [h13, cond_true] at hq
              refine pq_s hB 1 (pc' := 143) (L' := [(2, .int (I5 38 0)), (1, .ref 38), (0, .ref 35)]) (st' := [.int 0]) (I' := I12) (J' := J12) (by with_unfolding_all rfl) ?_
              subst hq
              exact pq_2i (x := 0) rfl ⟨_, rfl, rfl⟩
            · rw [h13, cond_false] at hq
              refine pq_s hB 3 (pc' := 128) (L' := [(2, .int (I5 38 0)), (1, .ref 38), (0, .ref 35)]) (st' := [.int 9, .ref 8]) (I' := I12) (J' := J12) (by with_unfolding_all rfl) ?_
              refine pq_1 rfl rfl rfl rfl (pq_le hle (f34_8_pq hB rfl)) ?_
              rintro _ I14 J14 ⟨v14, rfl, hc14⟩
              rw [hc14] at hq
              dsimp only at hq
              refine pq_ifn hB rfl (fun h15 => ?_) (fun h15 => ?_)
              · rw [h15, cond_true] at hq
                refine pq_s hB 1 (pc' := 143) (L' := [(2, .int (I5 38 0)), (1, .ref 38), (0, .ref 35)]) (st' := [.int 0]) (I' := I14) (J' := J14) (by with_unfolding_all rfl) ?_
                subst hq
                exact pq_2i (x := 0) rfl ⟨_, rfl, rfl⟩
              · rw [h15, cond_false] at hq
                refine pq_s hB 2 (pc' := 136) (L' := [(2, .int (I5 38 0)), (1, .ref 38), (0, .ref 35)]) (st' := [.int (I5 38 0), .ref 35]) (I' := I14) (J' := J14) (by with_unfolding_all rfl) ?_
                refine pq_1 rfl rfl rfl rfl (pq_le hle (f86_35_pq hB rfl)) ?_
                rintro _ I16 J16 ⟨v16, rfl, hc16⟩
                rw [hc16] at hq
                dsimp only at hq
                refine pq_ifn hB rfl (fun h17 => ?_) (fun h17 => ?_)
                · rw [h17, cond_true] at hq
                  refine pq_s hB 8 (pc' := 158) (L' := [(2, .int (I5 38 0)), (1, .ref 38), (0, .ref 35)]) (st' := [.ref 8]) (I' := (tup I16 38 0 ((I16 38 0) + 1))) (J' := J16) (by with_unfolding_all rfl) ?_
                  refine pq_1 rfl rfl rfl rfl (pq_le hle (f35_8_pq hB rfl)) ?_
                  rintro _ I18 J18 ⟨v18, rfl, hc18⟩
                  rw [hc18] at hq
                  dsimp only at hq
                  subst hq
                  exact pq_2i (x := v18) rfl ⟨_, rfl, rfl⟩
                · rw [h17, cond_false] at hq
                  refine pq_s hB 1 (pc' := 143) (L' := [(2, .int (I5 38 0)), (1, .ref 38), (0, .ref 35)]) (st' := [.int 0]) (I' := I16) (J' := J16) (by with_unfolding_all rfl) ?_
                  subst hq
                  exact pq_2i (x := 0) rfl ⟨_, rfl, rfl⟩
          · rw [h11, cond_false] at hq
            refine pq_s hB 1 (pc' := 103) (L' := [(2, .int (I5 38 0)), (1, .ref 38), (0, .ref 35)]) (st' := [.int 0]) (I' := I10) (J' := J10) (by with_unfolding_all rfl) ?_
            subst hq
            exact pq_2i (x := 0) rfl ⟨_, rfl, rfl⟩
      · rw [h6, cond_false] at hq
        refine pq_s hB 1 (pc' := 57) (L' := [(1, .ref 38), (0, .ref 35)]) (st' := [.int 0]) (I' := I5) (J' := J5) (by with_unfolding_all rfl) ?_
        subst hq
        exact pq_2i (x := 0) rfl ⟨_, rfl, rfl⟩
    · rw [h3, cond_false] at hq
      refine pq_s hB 3 (pc' := 38) (L' := [(1, .ref 38), (0, .ref 35)]) (st' := [.int 6, .ref 8]) (I' := I1) (J' := J1) (by with_unfolding_all rfl) ?_
      generalize hc19 : f33_8 I1 J1 6 = q19 at hq
      obtain ⟨v19, _, _⟩ := q19
      dsimp only at hq
      refine pq_1 rfl rfl rfl rfl (f33_8_pq hB hc19) ?_
      rintro _ I19 J19 ⟨rfl, rfl, rfl⟩
      subst hq
      exact pq_2i (x := v19) rfl ⟨_, rfl, rfl⟩
  · rw [h2, cond_false] at hq
    refine pq_s hB 3 (pc' := 20) (L' := [(1, .ref 38), (0, .ref 35)]) (st' := [.int 2, .ref 8]) (I' := I1) (J' := J1) (by with_unfolding_all rfl) ?_
    generalize hc20 : f33_8 I1 J1 2 = q20 at hq
    obtain ⟨v20, _, _⟩ := q20
    dsimp only at hq
    refine pq_1 rfl rfl rfl rfl (f33_8_pq hB hc20) ?_
    rintro _ I20 J20 ⟨rfl, rfl, rfl⟩
    subst hq
    exact pq_2i (x := v20) rfl ⟨_, rfl, rfl⟩
-- LP$Reader.isNameOf
def f39_8_39 (N : Nat) (I : tI) (J : tJ) (a0 : Int32) : Option (Int32 × tI × tJ) :=
  (match f38_8 I J with | (v1, I1, J1) => bif xcmp .ne v1 0 then (match f40_39 N I1 J1 a0 (J1 8 6) with | none => none | some (v3, I3, J3) => bif xcmp .ne v3 (-1) then some (1, (tup I3 8 8 v3), J3) else (match f33_8 (tup I3 8 8 v3) J3 3 with | (v5, I5, J5) => bif xcmp .eq v5 0 then some (0, I5, J5) else some (1, I5, J5))) else some (0, I1, J1))
set_option maxRecDepth 100000 in
theorem f39_8_39_pq {sc : List Int32} {B : xM} {N : Nat} {I : tI} {J : tJ} {a0 : Int32} (hB : kB pT B) : ∀ {X : Option (Int32 × tI × tJ)}, f39_8_39 N I J a0 = X → pq sc B N (xt_39, 3, 3) 0 [(0, .ref 8), (1, .ref 39), (2, .int a0)] [] I J (fun v I1 J1 => ∃ a, v = some (.int a) ∧ X = some (a, I1, J1)) := by
  intro X hq
  unfold f39_8_39 at hq
  have hle : N ≤ N := Nat.le_refl N
  refine pq_s hB 1 (pc' := 1) (L' := [(0, .ref 8), (1, .ref 39), (2, .int a0)]) (st' := [.ref 8]) (I' := I) (J' := J) (by with_unfolding_all rfl) ?_
  generalize hc1 : f38_8 I J = q1 at hq
  obtain ⟨v1, _, _⟩ := q1
  dsimp only at hq
  refine pq_1 rfl rfl rfl rfl (f38_8_pq hB hc1) ?_
  rintro _ I1 J1 ⟨rfl, rfl, rfl⟩
  refine pq_ifn hB rfl (fun h2 => ?_) (fun h2 => ?_)
  · rw [h2, cond_true] at hq
    refine pq_s hB 5 (pc' := 16) (L' := [(0, .ref 8), (1, .ref 39), (2, .int a0)]) (st' := [.long (J1 8 6), .int a0, .ref 39, .ref 8]) (I' := I1) (J' := J1) (by with_unfolding_all rfl) ?_
    refine pq_1 rfl rfl rfl rfl (pq_le hle (f40_39_pq hB rfl)) ?_
    rintro _ I3 J3 ⟨v3, rfl, hc3⟩
    rw [hc3] at hq
    dsimp only at hq
    refine pq_s hB 4 (pc' := 27) (L' := [(0, .ref 8), (1, .ref 39), (2, .int a0)]) (st' := [.int (-1), .int v3]) (I' := (tup I3 8 8 v3)) (J' := J3) (by with_unfolding_all rfl) ?_
    refine pq_icn hB rfl (fun h4 => ?_) (fun h4 => ?_)
    · rw [h4, cond_true] at hq
      refine pq_s hB 2 (pc' := 43) (L' := [(0, .ref 8), (1, .ref 39), (2, .int a0)]) (st' := [.int 1]) (I' := (tup I3 8 8 v3)) (J' := J3) (by with_unfolding_all rfl) ?_
      subst hq
      exact pq_2i (x := 1) rfl ⟨_, rfl, rfl⟩
    · rw [h4, cond_false] at hq
      refine pq_s hB 2 (pc' := 32) (L' := [(0, .ref 8), (1, .ref 39), (2, .int a0)]) (st' := [.int 3, .ref 8]) (I' := (tup I3 8 8 v3)) (J' := J3) (by with_unfolding_all rfl) ?_
      generalize hc5 : f33_8 (tup I3 8 8 v3) J3 3 = q5 at hq
      obtain ⟨v5, _, _⟩ := q5
      dsimp only at hq
      refine pq_1 rfl rfl rfl rfl (f33_8_pq hB hc5) ?_
      rintro _ I5 J5 ⟨rfl, rfl, rfl⟩
      refine pq_ifn hB rfl (fun h6 => ?_) (fun h6 => ?_)
      · rw [h6, cond_true] at hq
        refine pq_s hB 1 (pc' := 43) (L' := [(0, .ref 8), (1, .ref 39), (2, .int a0)]) (st' := [.int 0]) (I' := I5) (J' := J5) (by with_unfolding_all rfl) ?_
        subst hq
        exact pq_2i (x := 0) rfl ⟨_, rfl, rfl⟩
      · rw [h6, cond_false] at hq
        refine pq_s hB 2 (pc' := 43) (L' := [(0, .ref 8), (1, .ref 39), (2, .int a0)]) (st' := [.int 1]) (I' := I5) (J' := J5) (by with_unfolding_all rfl) ?_
        subst hq
        exact pq_2i (x := 1) rfl ⟨_, rfl, rfl⟩
  · rw [h2, cond_false] at hq
    refine pq_s hB 1 (pc' := 8) (L' := [(0, .ref 8), (1, .ref 39), (2, .int a0)]) (st' := [.int 0]) (I' := I1) (J' := J1) (by with_unfolding_all rfl) ?_
    subst hq
    exact pq_2i (x := 0) rfl ⟨_, rfl, rfl⟩
-- LP$SceneReader.readSeen
def f88_35 (N : Nat) (I : tI) (J : tJ) (a0 : Int32) : Option (Int32 × tI × tJ) :=
  (match f39_8_39 N I J (I 38 0) with | none => none | some (v1, I1, J1) => bif xcmp .ne v1 0 then (match f25_8 N (tup I1 50 ((a0).toNatClampNeg) (I1 8 8)) J1 with | none => none | some (_, I3, J3) => bif xcmp .ne (I3 8 5) 6 then (match f34_8 N I3 J3 12 with | none => none | some (v5, I5, J5) => bif xcmp .eq v5 0 then some (0, I5, J5) else (match f39_8_39 N I5 J5 (I5 38 0) with | none => none | some (v7, I7, J7) => bif xcmp .ne v7 0 then (bif xcmp .ne (I7 8 8) (I7 50 (a0).toNatClampNeg) then (match f25_8 N (tup (tup I7 49 ((a0).toNatClampNeg) 1) 51 ((a0).toNatClampNeg) (I7 8 8)) J7 with | none => none | some (_, I10, J10) => some (1, I10, J10)) else (match f33_8 I7 J7 5 with | (v11, I11, J11) => some (v11, I11, J11))) else some (0, I7, J7))) else (match f25_8 N I3 J3 with | none => none | some (_, I12, J12) => (match f79_35 N I12 J12 with | none => none | some (v13, I13, J13) => bif xcmp .ne v13 0 then (match f25_8 N (tup (tup I13 49 ((a0).toNatClampNeg) 0) 51 ((a0).toNatClampNeg) (I13 35 3)) J13 with | none => none | some (_, I15, J15) => some (1, I15, J15)) else some (0, I13, J13)))) else some (0, I1, J1))
set_option maxRecDepth 100000 in
theorem f88_35_pq {sc : List Int32} {B : xM} {N : Nat} {I : tI} {J : tJ} {a0 : Int32} (hB : kB pT B) : ∀ {X : Option (Int32 × tI × tJ)}, f88_35 N I J a0 = X → pq sc B N (xt_88, 3, 3) 0 [(0, .ref 35), (1, .int a0)] [] I J (fun v I1 J1 => ∃ a, v = some (.int a) ∧ X = some (a, I1, J1)) := by
  intro X hq
  unfold f88_35 at hq
  have hle : N ≤ N := Nat.le_refl N
  refine pq_s hB 14 (pc' := 32) (L' := [(2, .ref 47), (0, .ref 35), (1, .int a0)]) (st' := [.int (I 38 0), .ref 39, .ref 8]) (I' := I) (J' := J) (by with_unfolding_all rfl) ?_
  refine pq_1 rfl rfl rfl rfl (pq_le hle (f39_8_39_pq hB rfl)) ?_
  rintro _ I1 J1 ⟨v1, rfl, hc1⟩
  rw [hc1] at hq
  dsimp only at hq
  refine pq_ifn hB rfl (fun h2 => ?_) (fun h2 => ?_)
  · rw [h2, cond_true] at hq
    refine pq_s hB 9 (pc' := 57) (L' := [(2, .ref 47), (0, .ref 35), (1, .int a0)]) (st' := [.ref 8]) (I' := (tup I1 50 ((a0).toNatClampNeg) (I1 8 8))) (J' := J1) (by with_unfolding_all rfl) ?_
    refine pq_1 rfl rfl rfl rfl (pq_le hle (f25_8_pq hB rfl)) ?_
    rintro _ I3 J3 ⟨rfl, hc3⟩
    rw [hc3] at hq
    dsimp only at hq
    refine pq_s hB 4 (pc' := 69) (L' := [(2, .ref 47), (0, .ref 35), (1, .int a0)]) (st' := [.int 6, .int (I3 8 5)]) (I' := I3) (J' := J3) (by with_unfolding_all rfl) ?_
    refine pq_icn hB rfl (fun h4 => ?_) (fun h4 => ?_)
    · rw [h4, cond_true] at hq
      refine pq_s hB 3 (pc' := 114) (L' := [(2, .ref 47), (0, .ref 35), (1, .int a0)]) (st' := [.int 12, .ref 8]) (I' := I3) (J' := J3) (by with_unfolding_all rfl) ?_
      refine pq_1 rfl rfl rfl rfl (pq_le hle (f34_8_pq hB rfl)) ?_
      rintro _ I5 J5 ⟨v5, rfl, hc5⟩
      rw [hc5] at hq
      dsimp only at hq
      refine pq_ifn hB rfl (fun h6 => ?_) (fun h6 => ?_)
      · rw [h6, cond_true] at hq
        refine pq_s hB 1 (pc' := 151) (L' := [(2, .ref 47), (0, .ref 35), (1, .int a0)]) (st' := [.int 0]) (I' := I5) (J' := J5) (by with_unfolding_all rfl) ?_
        subst hq
        exact pq_2i (x := 0) rfl ⟨_, rfl, rfl⟩
      · rw [h6, cond_false] at hq
        refine pq_s hB 10 (pc' := 144) (L' := [(2, .ref 47), (0, .ref 35), (1, .int a0)]) (st' := [.int (I5 38 0), .ref 39, .ref 8]) (I' := I5) (J' := J5) (by with_unfolding_all rfl) ?_
        refine pq_1 rfl rfl rfl rfl (pq_le hle (f39_8_39_pq hB rfl)) ?_
        rintro _ I7 J7 ⟨v7, rfl, hc7⟩
        rw [hc7] at hq
        dsimp only at hq
        refine pq_ifn hB rfl (fun h8 => ?_) (fun h8 => ?_)
        · rw [h8, cond_true] at hq
          refine pq_s hB 7 (pc' := 165) (L' := [(2, .ref 47), (0, .ref 35), (1, .int a0)]) (st' := [.int (I7 50 (a0).toNatClampNeg), .int (I7 8 8)]) (I' := I7) (J' := J7) (by with_unfolding_all rfl) ?_
          refine pq_icn hB rfl (fun h9 => ?_) (fun h9 => ?_)
          · rw [h9, cond_true] at hq
            refine pq_s hB 14 (pc' := 201) (L' := [(2, .ref 47), (0, .ref 35), (1, .int a0)]) (st' := [.ref 8]) (I' := (tup (tup I7 49 ((a0).toNatClampNeg) 1) 51 ((a0).toNatClampNeg) (I7 8 8))) (J' := J7) (by with_unfolding_all rfl) ?_
            refine pq_1 rfl rfl rfl rfl (pq_le hle (f25_8_pq hB rfl)) ?_
            rintro _ I10 J10 ⟨rfl, hc10⟩
            rw [hc10] at hq
            dsimp only at hq
            refine pq_s hB 1 (pc' := 205) (L' := [(2, .ref 47), (0, .ref 35), (1, .int a0)]) (st' := [.int 1]) (I' := I10) (J' := J10) (by with_unfolding_all rfl) ?_
            subst hq
            exact pq_2i (x := 1) rfl ⟨_, rfl, rfl⟩
          · rw [h9, cond_false] at hq
            refine pq_s hB 3 (pc' := 173) (L' := [(2, .ref 47), (0, .ref 35), (1, .int a0)]) (st' := [.int 5, .ref 8]) (I' := I7) (J' := J7) (by with_unfolding_all rfl) ?_
            generalize hc11 : f33_8 I7 J7 5 = q11 at hq
            obtain ⟨v11, _, _⟩ := q11
            dsimp only at hq
            refine pq_1 rfl rfl rfl rfl (f33_8_pq hB hc11) ?_
            rintro _ I11 J11 ⟨rfl, rfl, rfl⟩
            subst hq
            exact pq_2i (x := v11) rfl ⟨_, rfl, rfl⟩
        · rw [h8, cond_false] at hq
          refine pq_s hB 1 (pc' := 151) (L' := [(2, .ref 47), (0, .ref 35), (1, .int a0)]) (st' := [.int 0]) (I' := I7) (J' := J7) (by with_unfolding_all rfl) ?_
          subst hq
          exact pq_2i (x := 0) rfl ⟨_, rfl, rfl⟩
    · rw [h4, cond_false] at hq
      refine pq_s hB 2 (pc' := 76) (L' := [(2, .ref 47), (0, .ref 35), (1, .int a0)]) (st' := [.ref 8]) (I' := I3) (J' := J3) (by with_unfolding_all rfl) ?_
      refine pq_1 rfl rfl rfl rfl (pq_le hle (f25_8_pq hB rfl)) ?_
      rintro _ I12 J12 ⟨rfl, hc12⟩
      rw [hc12] at hq
      dsimp only at hq
      refine pq_s hB 1 (pc' := 80) (L' := [(2, .ref 47), (0, .ref 35), (1, .int a0)]) (st' := [.ref 35]) (I' := I12) (J' := J12) (by with_unfolding_all rfl) ?_
      refine pq_1 rfl rfl rfl rfl (pq_le hle (f79_35_pq hB rfl)) ?_
      rintro _ I13 J13 ⟨v13, rfl, hc13⟩
      rw [hc13] at hq
      dsimp only at hq
      refine pq_ifn hB rfl (fun h14 => ?_) (fun h14 => ?_)
      · rw [h14, cond_true] at hq
        refine pq_s hB 14 (pc' := 201) (L' := [(2, .ref 47), (0, .ref 35), (1, .int a0)]) (st' := [.ref 8]) (I' := (tup (tup I13 49 ((a0).toNatClampNeg) 0) 51 ((a0).toNatClampNeg) (I13 35 3))) (J' := J13) (by with_unfolding_all rfl) ?_
        refine pq_1 rfl rfl rfl rfl (pq_le hle (f25_8_pq hB rfl)) ?_
        rintro _ I15 J15 ⟨rfl, hc15⟩
        rw [hc15] at hq
        dsimp only at hq
        refine pq_s hB 1 (pc' := 205) (L' := [(2, .ref 47), (0, .ref 35), (1, .int a0)]) (st' := [.int 1]) (I' := I15) (J' := J15) (by with_unfolding_all rfl) ?_
        subst hq
        exact pq_2i (x := 1) rfl ⟨_, rfl, rfl⟩
      · rw [h14, cond_false] at hq
        refine pq_s hB 1 (pc' := 87) (L' := [(2, .ref 47), (0, .ref 35), (1, .int a0)]) (st' := [.int 0]) (I' := I13) (J' := J13) (by with_unfolding_all rfl) ?_
        subst hq
        exact pq_2i (x := 0) rfl ⟨_, rfl, rfl⟩
  · rw [h2, cond_false] at hq
    refine pq_s hB 1 (pc' := 39) (L' := [(2, .ref 47), (0, .ref 35), (1, .int a0)]) (st' := [.int 0]) (I' := I1) (J' := J1) (by with_unfolding_all rfl) ?_
    subst hq
    exact pq_2i (x := 0) rfl ⟨_, rfl, rfl⟩
-- LP$SceneReader.readSight, from 149 on
def f87_35_j149 (N : Nat) (I : tI) (J : tJ) : Option (Int32 × tI × tJ) :=
  (match f35_8 N (tup I 47 0 ((I 47 0) + 1)) J with | none => none | some (v13, I13, J13) => some (v13, I13, J13))
set_option maxRecDepth 100000 in
theorem f87_35_j149_pq {sc : List Int32} {B : xM} {N : Nat} {I : tI} {J : tJ} (hB : kB pT B) : ∀ {X : Option (Int32 × tI × tJ)}, f87_35_j149 N I J = X → pq sc B N (xt_87, 3, 3) 149 [(0, .ref 35), (1, .ref 47)] [] I J (fun v I1 J1 => ∃ a, v = some (.int a) ∧ X = some (a, I1, J1)) := by
  intro X hq
  unfold f87_35_j149 at hq
  have hle : N ≤ N := Nat.le_refl N
  refine pq_s hB 8 (pc' := 163) (L' := [(0, .ref 35), (1, .ref 47)]) (st' := [.ref 8]) (I' := (tup I 47 0 ((I 47 0) + 1))) (J' := J) (by with_unfolding_all rfl) ?_
  refine pq_1 rfl rfl rfl rfl (pq_le hle (f35_8_pq hB rfl)) ?_
  rintro _ I13 J13 ⟨v13, rfl, hc13⟩
  rw [hc13] at hq
  dsimp only at hq
  subst hq
  exact pq_2i (x := v13) rfl ⟨_, rfl, rfl⟩
-- LP$SceneReader.readSight
def f87_35 (N : Nat) (I : tI) (J : tJ) : Option (Int32 × tI × tJ) :=
  (match f76_35 I J with | (v1, I1, J1) => bif xcmp .ne v1 0 then (bif xcmp .lt (I1 47 0) 6 then (match f25_8 N I1 J1 with | none => none | some (_, I4, J4) => (match f82_35 N I4 J4 with | none => none | some (v5, I5, J5) => bif xcmp .ne v5 0 then (match f25_8 N I5 (tup J5 48 (((I5 47 0)).toNatClampNeg) (J5 8 6)) with | none => none | some (_, I7, J7) => bif xcmp .ne (I7 8 5) 13 then (match f34_8 N I7 J7 11 with | none => none | some (v9, I9, J9) => bif xcmp .eq v9 0 then some (0, I9, J9) else (match f88_35 N I9 J9 (I5 47 0) with | none => none | some (v11, I11, J11) => bif xcmp .ne v11 0 then f87_35_j149 N I11 J11 else some (0, I11, J11))) else (match f25_8 N I7 J7 with | none => none | some (_, I13, J13) => f87_35_j149 N (tup (tup (tup I13 49 (((I5 47 0)).toNatClampNeg) 2) 50 (((I5 47 0)).toNatClampNeg) (-1)) 51 (((I5 47 0)).toNatClampNeg) (-1)) J13)) else some (0, I5, J5))) else (match f33_8 I1 J1 6 with | (v14, I14, J14) => some (v14, I14, J14))) else (match f33_8 I1 J1 2 with | (v15, I15, J15) => some (v15, I15, J15)))
set_option maxRecDepth 100000 in
theorem f87_35_pq {sc : List Int32} {B : xM} {N : Nat} {I : tI} {J : tJ} (hB : kB pT B) : ∀ {X : Option (Int32 × tI × tJ)}, f87_35 N I J = X → pq sc B N (xt_87, 3, 3) 0 [(0, .ref 35)] [] I J (fun v I1 J1 => ∃ a, v = some (.int a) ∧ X = some (a, I1, J1)) := by
  intro X hq
  unfold f87_35 at hq
  have hle : N ≤ N := Nat.le_refl N
  refine pq_s hB 5 (pc' := 9) (L' := [(1, .ref 47), (0, .ref 35)]) (st' := [.ref 35]) (I' := I) (J' := J) (by with_unfolding_all rfl) ?_
  generalize hc1 : f76_35 I J = q1 at hq
  obtain ⟨v1, _, _⟩ := q1
  dsimp only at hq
  refine pq_1 rfl rfl rfl rfl (f76_35_pq hB hc1) ?_
  rintro _ I1 J1 ⟨rfl, rfl, rfl⟩
  refine pq_ifn hB rfl (fun h2 => ?_) (fun h2 => ?_)
  · rw [h2, cond_true] at hq
    refine pq_s hB 3 (pc' := 30) (L' := [(1, .ref 47), (0, .ref 35)]) (st' := [.int 6, .int (I1 47 0)]) (I' := I1) (J' := J1) (by with_unfolding_all rfl) ?_
    refine pq_icn hB rfl (fun h3 => ?_) (fun h3 => ?_)
    · rw [h3, cond_true] at hq
      refine pq_s hB 2 (pc' := 47) (L' := [(1, .ref 47), (0, .ref 35)]) (st' := [.ref 8]) (I' := I1) (J' := J1) (by with_unfolding_all rfl) ?_
      refine pq_1 rfl rfl rfl rfl (pq_le hle (f25_8_pq hB rfl)) ?_
      rintro _ I4 J4 ⟨rfl, hc4⟩
      rw [hc4] at hq
      dsimp only at hq
      refine pq_s hB 1 (pc' := 51) (L' := [(1, .ref 47), (0, .ref 35)]) (st' := [.ref 35]) (I' := I4) (J' := J4) (by with_unfolding_all rfl) ?_
      refine pq_1 rfl rfl rfl rfl (pq_le hle (f82_35_pq hB rfl)) ?_
      rintro _ I5 J5 ⟨v5, rfl, hc5⟩
      rw [hc5] at hq
      dsimp only at hq
      refine pq_ifn hB rfl (fun h6 => ?_) (fun h6 => ?_)
      · rw [h6, cond_true] at hq
        refine pq_s hB 12 (pc' := 81) (L' := [(2, .int (I5 47 0)), (1, .ref 47), (0, .ref 35)]) (st' := [.ref 8]) (I' := I5) (J' := (tup J5 48 (((I5 47 0)).toNatClampNeg) (J5 8 6))) (by with_unfolding_all rfl) ?_
        refine pq_1 rfl rfl rfl rfl (pq_le hle (f25_8_pq hB rfl)) ?_
        rintro _ I7 J7 ⟨rfl, hc7⟩
        rw [hc7] at hq
        dsimp only at hq
        refine pq_s hB 4 (pc' := 93) (L' := [(2, .int (I5 47 0)), (1, .ref 47), (0, .ref 35)]) (st' := [.int 13, .int (I7 8 5)]) (I' := I7) (J' := J7) (by with_unfolding_all rfl) ?_
        refine pq_icn hB rfl (fun h8 => ?_) (fun h8 => ?_)
        · rw [h8, cond_true] at hq
          refine pq_s hB 3 (pc' := 133) (L' := [(2, .int (I5 47 0)), (1, .ref 47), (0, .ref 35)]) (st' := [.int 11, .ref 8]) (I' := I7) (J' := J7) (by with_unfolding_all rfl) ?_
          refine pq_1 rfl rfl rfl rfl (pq_le hle (f34_8_pq hB rfl)) ?_
          rintro _ I9 J9 ⟨v9, rfl, hc9⟩
          rw [hc9] at hq
          dsimp only at hq
          refine pq_ifn hB rfl (fun h10 => ?_) (fun h10 => ?_)
          · rw [h10, cond_true] at hq
            refine pq_s hB 1 (pc' := 148) (L' := [(2, .int (I5 47 0)), (1, .ref 47), (0, .ref 35)]) (st' := [.int 0]) (I' := I9) (J' := J9) (by with_unfolding_all rfl) ?_
            subst hq
            exact pq_2i (x := 0) rfl ⟨_, rfl, rfl⟩
          · rw [h10, cond_false] at hq
            refine pq_s hB 2 (pc' := 141) (L' := [(2, .int (I5 47 0)), (1, .ref 47), (0, .ref 35)]) (st' := [.int (I5 47 0), .ref 35]) (I' := I9) (J' := J9) (by with_unfolding_all rfl) ?_
            refine pq_1 rfl rfl rfl rfl (pq_le hle (f88_35_pq hB rfl)) ?_
            rintro _ I11 J11 ⟨v11, rfl, hc11⟩
            rw [hc11] at hq
            dsimp only at hq
            refine pq_ifn hB rfl (fun h12 => ?_) (fun h12 => ?_)
            · rw [h12, cond_true] at hq
              refine pq_perm (L := [(0, .ref 35), (1, .ref 47)]) (leqn_of ⟨rfl, rfl, trivial⟩ ⟨rfl, rfl, trivial⟩ ⟨rfl, rfl, rfl, trivial⟩) ?_
              exact f87_35_j149_pq hB hq
            · rw [h12, cond_false] at hq
              refine pq_s hB 1 (pc' := 148) (L' := [(2, .int (I5 47 0)), (1, .ref 47), (0, .ref 35)]) (st' := [.int 0]) (I' := I11) (J' := J11) (by with_unfolding_all rfl) ?_
              subst hq
              exact pq_2i (x := 0) rfl ⟨_, rfl, rfl⟩
        · rw [h8, cond_false] at hq
          refine pq_s hB 2 (pc' := 100) (L' := [(2, .int (I5 47 0)), (1, .ref 47), (0, .ref 35)]) (st' := [.ref 8]) (I' := I7) (J' := J7) (by with_unfolding_all rfl) ?_
          refine pq_1 rfl rfl rfl rfl (pq_le hle (f25_8_pq hB rfl)) ?_
          rintro _ I13 J13 ⟨rfl, hc13⟩
          rw [hc13] at hq
          dsimp only at hq
          refine pq_s hB 16 (pc' := 149) (L' := [(2, .int (I5 47 0)), (1, .ref 47), (0, .ref 35)]) (st' := []) (I' := (tup (tup (tup I13 49 (((I5 47 0)).toNatClampNeg) 2) 50 (((I5 47 0)).toNatClampNeg) (-1)) 51 (((I5 47 0)).toNatClampNeg) (-1))) (J' := J13) (by with_unfolding_all rfl) ?_
          refine pq_perm (L := [(0, .ref 35), (1, .ref 47)]) (leqn_of ⟨rfl, rfl, trivial⟩ ⟨rfl, rfl, trivial⟩ ⟨rfl, rfl, rfl, trivial⟩) ?_
          exact f87_35_j149_pq hB hq
      · rw [h6, cond_false] at hq
        refine pq_s hB 1 (pc' := 58) (L' := [(1, .ref 47), (0, .ref 35)]) (st' := [.int 0]) (I' := I5) (J' := J5) (by with_unfolding_all rfl) ?_
        subst hq
        exact pq_2i (x := 0) rfl ⟨_, rfl, rfl⟩
    · rw [h3, cond_false] at hq
      refine pq_s hB 3 (pc' := 39) (L' := [(1, .ref 47), (0, .ref 35)]) (st' := [.int 6, .ref 8]) (I' := I1) (J' := J1) (by with_unfolding_all rfl) ?_
      generalize hc14 : f33_8 I1 J1 6 = q14 at hq
      obtain ⟨v14, _, _⟩ := q14
      dsimp only at hq
      refine pq_1 rfl rfl rfl rfl (f33_8_pq hB hc14) ?_
      rintro _ I14 J14 ⟨rfl, rfl, rfl⟩
      subst hq
      exact pq_2i (x := v14) rfl ⟨_, rfl, rfl⟩
  · rw [h2, cond_false] at hq
    refine pq_s hB 3 (pc' := 20) (L' := [(1, .ref 47), (0, .ref 35)]) (st' := [.int 2, .ref 8]) (I' := I1) (J' := J1) (by with_unfolding_all rfl) ?_
    generalize hc15 : f33_8 I1 J1 2 = q15 at hq
    obtain ⟨v15, _, _⟩ := q15
    dsimp only at hq
    refine pq_1 rfl rfl rfl rfl (f33_8_pq hB hc15) ?_
    rintro _ I15 J15 ⟨rfl, rfl, rfl⟩
    subst hq
    exact pq_2i (x := v15) rfl ⟨_, rfl, rfl⟩
-- LP$SceneReader.readBuyer, from 137 on
def f89_35_j137 (N : Nat) (I : tI) (J : tJ) : Option (Int32 × tI × tJ) :=
  (match f35_8 N (tup I 36 6 ((I 36 6) + 1)) J with | none => none | some (v7, I7, J7) => some (v7, I7, J7))
set_option maxRecDepth 100000 in
theorem f89_35_j137_pq {sc : List Int32} {B : xM} {N : Nat} {I : tI} {J : tJ} (hB : kB pT B) : ∀ {X : Option (Int32 × tI × tJ)}, f89_35_j137 N I J = X → pq sc B N (xt_89, 2, 3) 137 [(0, .ref 35)] [] I J (fun v I1 J1 => ∃ a, v = some (.int a) ∧ X = some (a, I1, J1)) := by
  intro X hq
  unfold f89_35_j137 at hq
  have hle : N ≤ N := Nat.le_refl N
  refine pq_s hB 9 (pc' := 154) (L' := [(0, .ref 35)]) (st' := [.ref 8]) (I' := (tup I 36 6 ((I 36 6) + 1))) (J' := J) (by with_unfolding_all rfl) ?_
  refine pq_1 rfl rfl rfl rfl (pq_le hle (f35_8_pq hB rfl)) ?_
  rintro _ I7 J7 ⟨v7, rfl, hc7⟩
  rw [hc7] at hq
  dsimp only at hq
  subst hq
  exact pq_2i (x := v7) rfl ⟨_, rfl, rfl⟩
-- LP$SceneReader.readBuyer
def f89_35 (N : Nat) (I : tI) (J : tJ) : Option (Int32 × tI × tJ) :=
  bif xcmp .lt (I 36 6) 4 then (match f25_8 N I J with | none => none | some (_, I2, J2) => (match f82_35 N I2 J2 with | none => none | some (v3, I3, J3) => bif xcmp .ne v3 0 then (match f25_8 N (tup I3 58 (((I3 36 6)).toNatClampNeg) 100) (tup J3 57 (((I3 36 6)).toNatClampNeg) (J3 8 6)) with | none => none | some (_, I5, J5) => bif xcmp .ne (I5 8 5) 15 then f89_35_j137 N I5 J5 else (match f25_8 N I5 J5 with | none => none | some (_, I7, J7) => (match f37_8 I7 J7 0 9999 with | (v8, I8, J8) => bif xcmp .ne v8 0 then (match f25_8 N (tup I8 58 (((I3 36 6)).toNatClampNeg) (I8 8 7)) J8 with | none => none | some (_, I10, J10) => f89_35_j137 N I10 J10) else some (0, I8, J8)))) else some (0, I3, J3))) else (match f33_8 I J 6 with | (v11, I11, J11) => some (v11, I11, J11))
set_option maxRecDepth 100000 in
theorem f89_35_pq {sc : List Int32} {B : xM} {N : Nat} {I : tI} {J : tJ} (hB : kB pT B) : ∀ {X : Option (Int32 × tI × tJ)}, f89_35 N I J = X → pq sc B N (xt_89, 2, 3) 0 [(0, .ref 35)] [] I J (fun v I1 J1 => ∃ a, v = some (.int a) ∧ X = some (a, I1, J1)) := by
  intro X hq
  unfold f89_35 at hq
  have hle : N ≤ N := Nat.le_refl N
  refine pq_s hB 4 (pc' := 8) (L' := [(0, .ref 35)]) (st' := [.int 4, .int (I 36 6)]) (I' := I) (J' := J) (by with_unfolding_all rfl) ?_
  refine pq_icn hB rfl (fun h1 => ?_) (fun h1 => ?_)
  · rw [h1, cond_true] at hq
    refine pq_s hB 2 (pc' := 25) (L' := [(0, .ref 35)]) (st' := [.ref 8]) (I' := I) (J' := J) (by with_unfolding_all rfl) ?_
    refine pq_1 rfl rfl rfl rfl (pq_le hle (f25_8_pq hB rfl)) ?_
    rintro _ I2 J2 ⟨rfl, hc2⟩
    rw [hc2] at hq
    dsimp only at hq
    refine pq_s hB 1 (pc' := 29) (L' := [(0, .ref 35)]) (st' := [.ref 35]) (I' := I2) (J' := J2) (by with_unfolding_all rfl) ?_
    refine pq_1 rfl rfl rfl rfl (pq_le hle (f82_35_pq hB rfl)) ?_
    rintro _ I3 J3 ⟨v3, rfl, hc3⟩
    rw [hc3] at hq
    dsimp only at hq
    refine pq_ifn hB rfl (fun h4 => ?_) (fun h4 => ?_)
    · rw [h4, cond_true] at hq
      refine pq_s hB 20 (pc' := 76) (L' := [(1, .int (I3 36 6)), (0, .ref 35)]) (st' := [.ref 8]) (I' := (tup I3 58 (((I3 36 6)).toNatClampNeg) 100)) (J' := (tup J3 57 (((I3 36 6)).toNatClampNeg) (J3 8 6))) (by with_unfolding_all rfl) ?_
      refine pq_1 rfl rfl rfl rfl (pq_le hle (f25_8_pq hB rfl)) ?_
      rintro _ I5 J5 ⟨rfl, hc5⟩
      rw [hc5] at hq
      dsimp only at hq
      refine pq_s hB 4 (pc' := 88) (L' := [(1, .int (I3 36 6)), (0, .ref 35)]) (st' := [.int 15, .int (I5 8 5)]) (I' := I5) (J' := J5) (by with_unfolding_all rfl) ?_
      refine pq_icn hB rfl (fun h6 => ?_) (fun h6 => ?_)
      · rw [h6, cond_true] at hq
        refine pq_perm (L := [(0, .ref 35)]) (leqn_of ⟨rfl, trivial⟩ ⟨rfl, trivial⟩ ⟨rfl, rfl, trivial⟩) ?_
        exact f89_35_j137_pq hB hq
      · rw [h6, cond_false] at hq
        refine pq_s hB 2 (pc' := 95) (L' := [(1, .int (I3 36 6)), (0, .ref 35)]) (st' := [.ref 8]) (I' := I5) (J' := J5) (by with_unfolding_all rfl) ?_
        refine pq_1 rfl rfl rfl rfl (pq_le hle (f25_8_pq hB rfl)) ?_
        rintro _ I7 J7 ⟨rfl, hc7⟩
        rw [hc7] at hq
        dsimp only at hq
        refine pq_s hB 4 (pc' := 106) (L' := [(1, .int (I3 36 6)), (0, .ref 35)]) (st' := [.int 9999, .int 0, .ref 8]) (I' := I7) (J' := J7) (by with_unfolding_all rfl) ?_
        generalize hc8 : f37_8 I7 J7 0 9999 = q8 at hq
        obtain ⟨v8, _, _⟩ := q8
        dsimp only at hq
        refine pq_1 rfl rfl rfl rfl (f37_8_pq hB hc8) ?_
        rintro _ I8 J8 ⟨rfl, rfl, rfl⟩
        refine pq_ifn hB rfl (fun h9 => ?_) (fun h9 => ?_)
        · rw [h9, cond_true] at hq
          refine pq_s hB 10 (pc' := 134) (L' := [(1, .int (I3 36 6)), (0, .ref 35)]) (st' := [.ref 8]) (I' := (tup I8 58 (((I3 36 6)).toNatClampNeg) (I8 8 7))) (J' := J8) (by with_unfolding_all rfl) ?_
          refine pq_1 rfl rfl rfl rfl (pq_le hle (f25_8_pq hB rfl)) ?_
          rintro _ I10 J10 ⟨rfl, hc10⟩
          rw [hc10] at hq
          dsimp only at hq
          refine pq_perm (L := [(0, .ref 35)]) (leqn_of ⟨rfl, trivial⟩ ⟨rfl, trivial⟩ ⟨rfl, rfl, trivial⟩) ?_
          exact f89_35_j137_pq hB hq
        · rw [h9, cond_false] at hq
          refine pq_s hB 1 (pc' := 113) (L' := [(1, .int (I3 36 6)), (0, .ref 35)]) (st' := [.int 0]) (I' := I8) (J' := J8) (by with_unfolding_all rfl) ?_
          subst hq
          exact pq_2i (x := 0) rfl ⟨_, rfl, rfl⟩
    · rw [h4, cond_false] at hq
      refine pq_s hB 1 (pc' := 36) (L' := [(0, .ref 35)]) (st' := [.int 0]) (I' := I3) (J' := J3) (by with_unfolding_all rfl) ?_
      subst hq
      exact pq_2i (x := 0) rfl ⟨_, rfl, rfl⟩
  · rw [h1, cond_false] at hq
    refine pq_s hB 3 (pc' := 17) (L' := [(0, .ref 35)]) (st' := [.int 6, .ref 8]) (I' := I) (J' := J) (by with_unfolding_all rfl) ?_
    generalize hc11 : f33_8 I J 6 = q11 at hq
    obtain ⟨v11, _, _⟩ := q11
    dsimp only at hq
    refine pq_1 rfl rfl rfl rfl (f33_8_pq hB hc11) ?_
    rintro _ I11 J11 ⟨rfl, rfl, rfl⟩
    subst hq
    exact pq_2i (x := v11) rfl ⟨_, rfl, rfl⟩
-- LP$SceneReader.reads, the loop at 24, to [191]
def f75_35_l24 (N : Nat) : Nat → tI → tJ → Int32 → Int32 → Option (Int32 × Int32 × tI × tJ)
  | 0, _, _, _, _ => none
  | k + 1, I, J, x2, x3 =>
    bif xcmp .ge x3 900 then some (x2, x3, I, J) else bif xcmp .eq x2 0 then some (x2, x3, I, J) else (match f32_8 I J with | (v5, I5, J5) => bif xcmp .ne v5 0 then some (x2, x3, I5, J5) else bif xcmp .eq (I5 8 5) 0 then ((match f77_35 N I5 J5 with | none => none | some (v8, I8, J8) => f75_35_l24 N k I8 J8 v8 (x3 + 1))) else bif xcmp .eq (I5 8 5) 2 then ((match f78_35 N I5 J5 with | none => none | some (v10, I10, J10) => f75_35_l24 N k I10 J10 v10 (x3 + 1))) else bif xcmp .eq (I5 8 5) 4 then ((match f81_35 N I5 J5 with | none => none | some (v12, I12, J12) => f75_35_l24 N k I12 J12 v12 (x3 + 1))) else bif xcmp .eq (I5 8 5) 5 then ((match f83_35 N I5 J5 with | none => none | some (v14, I14, J14) => f75_35_l24 N k I14 J14 v14 (x3 + 1))) else bif xcmp .eq (I5 8 5) 10 then ((match f87_35 N I5 J5 with | none => none | some (v16, I16, J16) => f75_35_l24 N k I16 J16 v16 (x3 + 1))) else bif xcmp .eq (I5 8 5) 14 then ((match f89_35 N I5 J5 with | none => none | some (v18, I18, J18) => f75_35_l24 N k I18 J18 v18 (x3 + 1))) else (match f33_8 I5 J5 2 with | (v19, I19, J19) => f75_35_l24 N k I19 J19 v19 (x3 + 1)))
set_option maxRecDepth 100000 in
theorem f75_35_l24_pq {sc : List Int32} {B : xM} {N : Nat} {P : Option Value → tI → tJ → Prop} (hB : kB pT B) : ∀ (k : Nat), k ≤ N → ∀ (b m : Nat), b ≤ k → b ≤ m → ∀ {I : tI} {J : tJ} {x2 : Int32} {x3 : Int32} {Y : Option (Int32 × Int32 × tI × tJ)}, f75_35_l24 N k I J x2 x3 = Y → (∀ {y2 : Int32} {y3 : Int32} {I1 : tI} {J1 : tJ}, Y = some (y2, y3, I1, J1) → pq sc B m (xt_75, 4, 3) 191 [(0, .ref 35), (2, .int y2), (3, .int y3)] [] I1 J1 P) → pq sc B b (xt_75, 4, 3) 24 [(0, .ref 35), (2, .int x2), (3, .int x3)] [] I J P
  | 0, _, b, _, hb, _, _, _, _, _, _, _, _ => by
    have e : b = 0 := by omega
    subst e
    exact pq_zero
  | _ + 1, _, 0, _, _, _, _, _, _, _, _, _, _ => pq_zero
  | k + 1, hk, b + 1, m, hb, hm, I, J, x2, x3, Y, hq, hx0 => by
    unfold f75_35_l24 at hq
    have hle : b ≤ N := by omega
    refine pq_s1 hB 1 (pc' := 28) (L' := [(0, .ref 35), (2, .int x2), (3, .int x3)]) (st' := [.int 900, .int x3]) (I' := I) (J' := J) (by with_unfolding_all rfl) ?_
    refine pq_icn hB rfl (fun h3 => ?_) (fun h3 => ?_)
    · rw [h3, cond_true] at hq
      exact pq_le (by omega) (hx0 hq.symm)
    · rw [h3, cond_false] at hq
      refine pq_s hB 1 (pc' := 32) (L' := [(0, .ref 35), (2, .int x2), (3, .int x3)]) (st' := [.int x2]) (I' := I) (J' := J) (by with_unfolding_all rfl) ?_
      refine pq_ifn hB rfl (fun h4 => ?_) (fun h4 => ?_)
      · rw [h4, cond_true] at hq
        exact pq_le (by omega) (hx0 hq.symm)
      · rw [h4, cond_false] at hq
        refine pq_s hB 2 (pc' := 39) (L' := [(0, .ref 35), (2, .int x2), (3, .int x3)]) (st' := [.ref 8]) (I' := I) (J' := J) (by with_unfolding_all rfl) ?_
        generalize hc5 : f32_8 I J = q5 at hq
        obtain ⟨v5, _, _⟩ := q5
        dsimp only at hq
        refine pq_1 rfl rfl rfl rfl (f32_8_pq hB hc5) ?_
        rintro _ I5 J5 ⟨rfl, rfl, rfl⟩
        refine pq_ifn hB rfl (fun h6 => ?_) (fun h6 => ?_)
        · rw [h6, cond_true] at hq
          exact pq_le (by omega) (hx0 hq.symm)
        · rw [h6, cond_false] at hq
          refine pq_s hB 3 (pc' := 52) (L' := [(0, .ref 35), (2, .int x2), (3, .int x3)]) (st' := [.int (I5 8 5)]) (I' := I5) (J' := J5) (by with_unfolding_all rfl) ?_
          cases h7 : xcmp .eq (I5 8 5) 0 with
          | true =>
            rw [h7, cond_true] at hq
            refine pq_tsw_k hB (c := 0) (t := 128) rfl h7 rfl ?_
            refine pq_s hB 1 (pc' := 129) (L' := [(0, .ref 35), (2, .int x2), (3, .int x3)]) (st' := [.ref 35]) (I' := I5) (J' := J5) (by with_unfolding_all rfl) ?_
            refine pq_1 rfl rfl rfl rfl (pq_le hle (f77_35_pq hB rfl)) ?_
            rintro _ I8 J8 ⟨v8, rfl, hc8⟩
            rw [hc8] at hq
            dsimp only at hq
            refine pq_s hB 4 (pc' := 24) (L' := [(3, .int (x3 + 1)), (2, .int v8), (0, .ref 35)]) (st' := []) (I' := I8) (J' := J8) (by with_unfolding_all rfl) ?_
            refine pq_perm (L := [(0, .ref 35), (2, .int v8), (3, .int (x3 + 1))]) (leqn_of ⟨rfl, rfl, rfl, trivial⟩ ⟨rfl, rfl, rfl, trivial⟩ ⟨rfl, rfl, rfl, trivial⟩) ?_
            exact f75_35_l24_pq hB k (by omega) b m (by omega) (by omega) hq hx0
          | false =>
            rw [h7, cond_false] at hq
            cases h9 : xcmp .eq (I5 8 5) 2 with
            | true =>
              rw [h9, cond_true] at hq
              refine pq_tsw_k hB (c := 2) (t := 136) rfl h9 rfl ?_
              refine pq_s hB 1 (pc' := 137) (L' := [(0, .ref 35), (2, .int x2), (3, .int x3)]) (st' := [.ref 35]) (I' := I5) (J' := J5) (by with_unfolding_all rfl) ?_
              refine pq_1 rfl rfl rfl rfl (pq_le hle (f78_35_pq hB rfl)) ?_
              rintro _ I10 J10 ⟨v10, rfl, hc10⟩
              rw [hc10] at hq
              dsimp only at hq
              refine pq_s hB 4 (pc' := 24) (L' := [(3, .int (x3 + 1)), (2, .int v10), (0, .ref 35)]) (st' := []) (I' := I10) (J' := J10) (by with_unfolding_all rfl) ?_
              refine pq_perm (L := [(0, .ref 35), (2, .int v10), (3, .int (x3 + 1))]) (leqn_of ⟨rfl, rfl, rfl, trivial⟩ ⟨rfl, rfl, rfl, trivial⟩ ⟨rfl, rfl, rfl, trivial⟩) ?_
              exact f75_35_l24_pq hB k (by omega) b m (by omega) (by omega) hq hx0
            | false =>
              rw [h9, cond_false] at hq
              cases h11 : xcmp .eq (I5 8 5) 4 with
              | true =>
                rw [h11, cond_true] at hq
                refine pq_tsw_k hB (c := 4) (t := 144) rfl h11 rfl ?_
                refine pq_s hB 1 (pc' := 145) (L' := [(0, .ref 35), (2, .int x2), (3, .int x3)]) (st' := [.ref 35]) (I' := I5) (J' := J5) (by with_unfolding_all rfl) ?_
                refine pq_1 rfl rfl rfl rfl (pq_le hle (f81_35_pq hB rfl)) ?_
                rintro _ I12 J12 ⟨v12, rfl, hc12⟩
                rw [hc12] at hq
                dsimp only at hq
                refine pq_s hB 4 (pc' := 24) (L' := [(3, .int (x3 + 1)), (2, .int v12), (0, .ref 35)]) (st' := []) (I' := I12) (J' := J12) (by with_unfolding_all rfl) ?_
                refine pq_perm (L := [(0, .ref 35), (2, .int v12), (3, .int (x3 + 1))]) (leqn_of ⟨rfl, rfl, rfl, trivial⟩ ⟨rfl, rfl, rfl, trivial⟩ ⟨rfl, rfl, rfl, trivial⟩) ?_
                exact f75_35_l24_pq hB k (by omega) b m (by omega) (by omega) hq hx0
              | false =>
                rw [h11, cond_false] at hq
                cases h13 : xcmp .eq (I5 8 5) 5 with
                | true =>
                  rw [h13, cond_true] at hq
                  refine pq_tsw_k hB (c := 5) (t := 152) rfl h13 rfl ?_
                  refine pq_s hB 1 (pc' := 153) (L' := [(0, .ref 35), (2, .int x2), (3, .int x3)]) (st' := [.ref 35]) (I' := I5) (J' := J5) (by with_unfolding_all rfl) ?_
                  refine pq_1 rfl rfl rfl rfl (pq_le hle (f83_35_pq hB rfl)) ?_
                  rintro _ I14 J14 ⟨v14, rfl, hc14⟩
                  rw [hc14] at hq
                  dsimp only at hq
                  refine pq_s hB 4 (pc' := 24) (L' := [(3, .int (x3 + 1)), (2, .int v14), (0, .ref 35)]) (st' := []) (I' := I14) (J' := J14) (by with_unfolding_all rfl) ?_
                  refine pq_perm (L := [(0, .ref 35), (2, .int v14), (3, .int (x3 + 1))]) (leqn_of ⟨rfl, rfl, rfl, trivial⟩ ⟨rfl, rfl, rfl, trivial⟩ ⟨rfl, rfl, rfl, trivial⟩) ?_
                  exact f75_35_l24_pq hB k (by omega) b m (by omega) (by omega) hq hx0
                | false =>
                  rw [h13, cond_false] at hq
                  cases h15 : xcmp .eq (I5 8 5) 10 with
                  | true =>
                    rw [h15, cond_true] at hq
                    refine pq_tsw_k hB (c := 10) (t := 160) rfl h15 rfl ?_
                    refine pq_s hB 1 (pc' := 161) (L' := [(0, .ref 35), (2, .int x2), (3, .int x3)]) (st' := [.ref 35]) (I' := I5) (J' := J5) (by with_unfolding_all rfl) ?_
                    refine pq_1 rfl rfl rfl rfl (pq_le hle (f87_35_pq hB rfl)) ?_
                    rintro _ I16 J16 ⟨v16, rfl, hc16⟩
                    rw [hc16] at hq
                    dsimp only at hq
                    refine pq_s hB 4 (pc' := 24) (L' := [(3, .int (x3 + 1)), (2, .int v16), (0, .ref 35)]) (st' := []) (I' := I16) (J' := J16) (by with_unfolding_all rfl) ?_
                    refine pq_perm (L := [(0, .ref 35), (2, .int v16), (3, .int (x3 + 1))]) (leqn_of ⟨rfl, rfl, rfl, trivial⟩ ⟨rfl, rfl, rfl, trivial⟩ ⟨rfl, rfl, rfl, trivial⟩) ?_
                    exact f75_35_l24_pq hB k (by omega) b m (by omega) (by omega) hq hx0
                  | false =>
                    rw [h15, cond_false] at hq
                    cases h17 : xcmp .eq (I5 8 5) 14 with
                    | true =>
                      rw [h17, cond_true] at hq
                      refine pq_tsw_k hB (c := 14) (t := 168) rfl h17 rfl ?_
                      refine pq_s hB 1 (pc' := 169) (L' := [(0, .ref 35), (2, .int x2), (3, .int x3)]) (st' := [.ref 35]) (I' := I5) (J' := J5) (by with_unfolding_all rfl) ?_
                      refine pq_1 rfl rfl rfl rfl (pq_le hle (f89_35_pq hB rfl)) ?_
                      rintro _ I18 J18 ⟨v18, rfl, hc18⟩
                      rw [hc18] at hq
                      dsimp only at hq
                      refine pq_s hB 4 (pc' := 24) (L' := [(3, .int (x3 + 1)), (2, .int v18), (0, .ref 35)]) (st' := []) (I' := I18) (J' := J18) (by with_unfolding_all rfl) ?_
                      refine pq_perm (L := [(0, .ref 35), (2, .int v18), (3, .int (x3 + 1))]) (leqn_of ⟨rfl, rfl, rfl, trivial⟩ ⟨rfl, rfl, rfl, trivial⟩ ⟨rfl, rfl, rfl, trivial⟩) ?_
                      exact f75_35_l24_pq hB k (by omega) b m (by omega) (by omega) hq hx0
                    | false =>
                      rw [h17, cond_false] at hq
                      refine pq_tsw_d hB (cs := [0, 2, 4, 5, 10, 14]) rfl rfl rfl (List.forall_mem_cons.mpr ⟨h7, List.forall_mem_cons.mpr ⟨h9, List.forall_mem_cons.mpr ⟨h11, List.forall_mem_cons.mpr ⟨h13, List.forall_mem_cons.mpr ⟨h15, List.forall_mem_cons.mpr ⟨h17, fun c hc => by cases hc⟩⟩⟩⟩⟩⟩) ?_
                      show pq sc B _ _ 176 _ _ _ _ _
                      refine pq_s hB 3 (pc' := 181) (L' := [(0, .ref 35), (2, .int x2), (3, .int x3)]) (st' := [.int 2, .ref 8]) (I' := I5) (J' := J5) (by with_unfolding_all rfl) ?_
                      generalize hc19 : f33_8 I5 J5 2 = q19 at hq
                      obtain ⟨v19, _, _⟩ := q19
                      dsimp only at hq
                      refine pq_1 rfl rfl rfl rfl (f33_8_pq hB hc19) ?_
                      rintro _ I19 J19 ⟨rfl, rfl, rfl⟩
                      refine pq_s hB 3 (pc' := 24) (L' := [(3, .int (x3 + 1)), (2, .int v19), (0, .ref 35)]) (st' := []) (I' := I19) (J' := J19) (by with_unfolding_all rfl) ?_
                      refine pq_perm (L := [(0, .ref 35), (2, .int v19), (3, .int (x3 + 1))]) (leqn_of ⟨rfl, rfl, rfl, trivial⟩ ⟨rfl, rfl, rfl, trivial⟩ ⟨rfl, rfl, rfl, trivial⟩) ?_
                      exact f75_35_l24_pq hB k (by omega) b m (by omega) (by omega) hq hx0
-- LP$Folk.begin, the loop at 7, to [53]
def f11_38_l7 (N : Nat) : Nat → tI → tJ → Int32 → Option (Int32 × tI × tJ)
  | 0, _, _, _ => none
  | k + 1, I, J, x1 =>
    bif xcmp .ge x1 (I 38 0) then some (x1, I, J) else bif xcmp .ne (I 41 (x1).toNatClampNeg) 0 then f11_38_l7 N k (tup (tup I 45 ((x1).toNatClampNeg) 0) 46 ((x1).toNatClampNeg) (I 40 (x1).toNatClampNeg)) J (x1 + 1) else f11_38_l7 N k (tup (tup I 45 ((x1).toNatClampNeg) 1) 46 ((x1).toNatClampNeg) (I 40 (x1).toNatClampNeg)) J (x1 + 1)
set_option maxRecDepth 100000 in
theorem f11_38_l7_pq {sc : List Int32} {B : xM} {N : Nat} {P : Option Value → tI → tJ → Prop} (hB : kB pT B) : ∀ (k : Nat), k ≤ N → ∀ (b m : Nat), b ≤ k → b ≤ m → ∀ {I : tI} {J : tJ} {x1 : Int32} {Y : Option (Int32 × tI × tJ)}, f11_38_l7 N k I J x1 = Y → (∀ {y1 : Int32} {I1 : tI} {J1 : tJ}, Y = some (y1, I1, J1) → pq sc B m (xt_11, 2, 0) 53 [(0, .ref 38), (1, .int y1)] [] I1 J1 P) → pq sc B b (xt_11, 2, 0) 7 [(0, .ref 38), (1, .int x1)] [] I J P
  | 0, _, b, _, hb, _, _, _, _, _, _, _ => by
    have e : b = 0 := by omega
    subst e
    exact pq_zero
  | _ + 1, _, 0, _, _, _, _, _, _, _, _, _ => pq_zero
  | k + 1, hk, b + 1, m, hb, hm, I, J, x1, Y, hq, hx0 => by
    unfold f11_38_l7 at hq
    have hle : b ≤ N := by omega
    refine pq_s1 hB 2 (pc' := 12) (L' := [(0, .ref 38), (1, .int x1)]) (st' := [.int (I 38 0), .int x1]) (I' := I) (J' := J) (by with_unfolding_all rfl) ?_
    refine pq_icn hB rfl (fun h1 => ?_) (fun h1 => ?_)
    · rw [h1, cond_true] at hq
      exact pq_le (by omega) (hx0 hq.symm)
    · rw [h1, cond_false] at hq
      refine pq_s hB 7 (pc' := 26) (L' := [(0, .ref 38), (1, .int x1)]) (st' := [.int (I 41 (x1).toNatClampNeg), .int x1, .ref 45]) (I' := I) (J' := J) (by with_unfolding_all rfl) ?_
      refine pq_ifn hB rfl (fun h2 => ?_) (fun h2 => ?_)
      · rw [h2, cond_true] at hq
        refine pq_s hB 12 (pc' := 7) (L' := [(1, .int (x1 + 1)), (0, .ref 38)]) (st' := []) (I' := (tup (tup I 45 ((x1).toNatClampNeg) 0) 46 ((x1).toNatClampNeg) (I 40 (x1).toNatClampNeg))) (J' := J) (by with_unfolding_all rfl) ?_
        refine pq_perm (L := [(0, .ref 38), (1, .int (x1 + 1))]) (leqn_of ⟨rfl, rfl, trivial⟩ ⟨rfl, rfl, trivial⟩ ⟨rfl, rfl, trivial⟩) ?_
        exact f11_38_l7_pq hB k (by omega) b m (by omega) (by omega) hq hx0
      · rw [h2, cond_false] at hq
        refine pq_s hB 13 (pc' := 7) (L' := [(1, .int (x1 + 1)), (0, .ref 38)]) (st' := []) (I' := (tup (tup I 45 ((x1).toNatClampNeg) 1) 46 ((x1).toNatClampNeg) (I 40 (x1).toNatClampNeg))) (J' := J) (by with_unfolding_all rfl) ?_
        refine pq_perm (L := [(0, .ref 38), (1, .int (x1 + 1))]) (leqn_of ⟨rfl, rfl, trivial⟩ ⟨rfl, rfl, trivial⟩ ⟨rfl, rfl, trivial⟩) ?_
        exact f11_38_l7_pq hB k (by omega) b m (by omega) (by omega) hq hx0
-- LP$Folk.begin
def f11_38 (N : Nat) (I : tI) (J : tJ) : Option (Unit × tI × tJ) :=
  (match f11_38_l7 N N (tup I 38 1 0) J 0 with | none => none | some (y1_1, I1, J1) => some ((), I1, J1))
set_option maxRecDepth 100000 in
theorem f11_38_pq {sc : List Int32} {B : xM} {N : Nat} {I : tI} {J : tJ} (hB : kB pT B) : ∀ {X : Option (Unit × tI × tJ)}, f11_38 N I J = X → pq sc B N (xt_11, 2, 0) 0 [(0, .ref 38)] [] I J (fun v I1 J1 => v = none ∧ X = some ((), I1, J1)) := by
  intro X hq
  unfold f11_38 at hq
  have hle : N ≤ N := Nat.le_refl N
  refine pq_s hB 5 (pc' := 7) (L' := [(1, .int 0), (0, .ref 38)]) (st' := []) (I' := (tup I 38 1 0)) (J' := J) (by with_unfolding_all rfl) ?_
  refine pq_perm (L := [(0, .ref 38), (1, .int 0)]) (leqn_of ⟨rfl, rfl, trivial⟩ ⟨rfl, rfl, trivial⟩ ⟨rfl, rfl, trivial⟩) ?_
  refine f11_38_l7_pq hB N (Nat.le_refl N) N N hle (Nat.le_refl N) rfl ?_
  intro y1_1 I1 J1 hc1
  rw [hc1] at hq
  dsimp only at hq
  subst hq
  exact pq_2 (v := none) rfl rfl (by with_unfolding_all rfl) ⟨rfl, rfl⟩
-- LP$SceneReader.reads
def f75_35 (N : Nat) (I : tI) (J : tJ) (a0 : Int32) : Option (Int32 × tI × tJ) :=
  (match f104_36 N I J with | none => none | some (_, I1, J1) => (match f24_8 N (tup I1 35 2 0) J1 a0 with | none => none | some (_, I2, J2) => (match f75_35_l24 N N I2 J2 1 0 with | none => none | some (y3_2, y3_3, I3, J3) => bif xcmp .eq y3_2 0 then some (y3_2, I3, J3) else (match f11_38 N I3 J3 with | none => none | some (_, I5, J5) => some (y3_2, I5, J5)))))
set_option maxRecDepth 100000 in
theorem f75_35_pq {sc : List Int32} {B : xM} {N : Nat} {I : tI} {J : tJ} {a0 : Int32} (hB : kB pT B) : ∀ {X : Option (Int32 × tI × tJ)}, f75_35 N I J a0 = X → pq sc B N (xt_75, 4, 3) 0 [(0, .ref 35), (1, .int a0)] [] I J (fun v I1 J1 => ∃ a, v = some (.int a) ∧ X = some (a, I1, J1)) := by
  intro X hq
  unfold f75_35 at hq
  have hle : N ≤ N := Nat.le_refl N
  refine pq_s hB 2 (pc' := 4) (L' := [(0, .ref 35), (1, .int a0)]) (st' := [.ref 36]) (I' := I) (J' := J) (by with_unfolding_all rfl) ?_
  refine pq_1 rfl rfl rfl rfl (pq_le hle (f104_36_pq hB rfl)) ?_
  rintro _ I1 J1 ⟨rfl, hc1⟩
  rw [hc1] at hq
  dsimp only at hq
  refine pq_s hB 6 (pc' := 17) (L' := [(0, .ref 35), (1, .int a0)]) (st' := [.int a0, .ref 8]) (I' := (tup I1 35 2 0)) (J' := J1) (by with_unfolding_all rfl) ?_
  refine pq_1 rfl rfl rfl rfl (pq_le hle (f24_8_pq hB rfl)) ?_
  rintro _ I2 J2 ⟨rfl, hc2⟩
  rw [hc2] at hq
  dsimp only at hq
  refine pq_s hB 4 (pc' := 24) (L' := [(3, .int 0), (2, .int 1), (0, .ref 35), (1, .int a0)]) (st' := []) (I' := I2) (J' := J2) (by with_unfolding_all rfl) ?_
  refine pq_perm (L := [(0, .ref 35), (2, .int 1), (3, .int 0)]) (leqn_of ⟨rfl, rfl, rfl, trivial⟩ ⟨rfl, rfl, rfl, trivial⟩ ⟨rfl, rfl, rfl, rfl, trivial⟩) ?_
  refine f75_35_l24_pq hB N (Nat.le_refl N) N N hle (Nat.le_refl N) rfl ?_
  intro y3_2 y3_3 I3 J3 hc3
  rw [hc3] at hq
  dsimp only at hq
  refine pq_s hB 1 (pc' := 192) (L' := [(0, .ref 35), (2, .int y3_2), (3, .int y3_3)]) (st' := [.int y3_2]) (I' := I3) (J' := J3) (by with_unfolding_all rfl) ?_
  refine pq_ifn hB rfl (fun h4 => ?_) (fun h4 => ?_)
  · rw [h4, cond_true] at hq
    refine pq_s hB 1 (pc' := 206) (L' := [(0, .ref 35), (2, .int y3_2), (3, .int y3_3)]) (st' := [.int y3_2]) (I' := I3) (J' := J3) (by with_unfolding_all rfl) ?_
    subst hq
    exact pq_2i (x := y3_2) rfl ⟨_, rfl, rfl⟩
  · rw [h4, cond_false] at hq
    refine pq_s hB 3 (pc' := 202) (L' := [(0, .ref 35), (2, .int y3_2), (3, .int y3_3)]) (st' := [.ref 38]) (I' := I3) (J' := J3) (by with_unfolding_all rfl) ?_
    refine pq_1 rfl rfl rfl rfl (pq_le hle (f11_38_pq hB rfl)) ?_
    rintro _ I5 J5 ⟨rfl, hc5⟩
    rw [hc5] at hq
    dsimp only at hq
    refine pq_s hB 1 (pc' := 206) (L' := [(0, .ref 35), (2, .int y3_2), (3, .int y3_3)]) (st' := [.int y3_2]) (I' := I5) (J' := J5) (by with_unfolding_all rfl) ?_
    subst hq
    exact pq_2i (x := y3_2) rfl ⟨_, rfl, rfl⟩
-- LP.keepFault
def f145_0 (I : tI) (J : tJ) : Unit × tI × tJ :=
  ((), (tup (tup I 0 8 (I 8 9)) 0 9 (I 8 10)), J)
set_option maxRecDepth 100000 in
theorem f145_0_pq {sc : List Int32} {B : xM} {n : Nat} {I : tI} {J : tJ} (hB : kB pT B) : ∀ {q : Unit × tI × tJ}, f145_0 I J = q → pq sc B n (xt_145, 1, 0) 0 [(0, .ref 0)] [] I J (fun v I1 J1 => v = none ∧ I1 = q.2.1 ∧ J1 = q.2.2) := by
  intro q hq
  unfold f145_0 at hq
  refine pq_s hB 10 (pc' := 22) (L' := [(0, .ref 0)]) (st' := []) (I' := (tup (tup I 0 8 (I 8 9)) 0 9 (I 8 10))) (J' := J) (by with_unfolding_all rfl) ?_
  subst hq
  exact pq_2 (v := none) rfl rfl (by with_unfolding_all rfl) ⟨rfl, rfl, rfl⟩
-- LP$Room.takeOver
def f42_11_37 (I : tI) (J : tJ) : Unit × tI × tJ :=
  ((), (tup (tup I 11 0 (I 37 0)) 11 1 (I 37 1)), (tup J 11 2 (J 37 2)))
set_option maxRecDepth 100000 in
theorem f42_11_37_pq {sc : List Int32} {B : xM} {n : Nat} {I : tI} {J : tJ} (hB : kB pT B) : ∀ {q : Unit × tI × tJ}, f42_11_37 I J = q → pq sc B n (xt_42, 2, 0) 0 [(0, .ref 11), (1, .ref 37)] [] I J (fun v I1 J1 => v = none ∧ I1 = q.2.1 ∧ J1 = q.2.2) := by
  intro q hq
  unfold f42_11_37 at hq
  refine pq_s hB 12 (pc' := 24) (L' := [(0, .ref 11), (1, .ref 37)]) (st' := []) (I' := (tup (tup I 11 0 (I 37 0)) 11 1 (I 37 1))) (J' := (tup J 11 2 (J 37 2))) (by with_unfolding_all rfl) ?_
  subst hq
  exact pq_2 (v := none) rfl rfl (by with_unfolding_all rfl) ⟨rfl, rfl, rfl⟩
-- LP$Folk.takeOver
def f10_12_38 (I : tI) (J : tJ) : Unit × tI × tJ :=
  ((), (tcp (tcp (tcp (tcp (tcp (tcp (tcp (tup (tup I 12 0 (I 38 0)) 12 1 (I 38 1)) 14 0 40 0 5) 15 0 41 0 5) 16 0 42 0 5) 17 0 43 0 5) 18 0 44 0 40) 19 0 45 0 5) 20 0 46 0 5), (tcp J 13 0 39 0 5))
set_option maxRecDepth 100000 in
theorem f10_12_38_pq {sc : List Int32} {B : xM} {n : Nat} {I : tI} {J : tJ} (hB : kB pT B) : ∀ {q : Unit × tI × tJ}, f10_12_38 I J = q → pq sc B n (xt_10, 2, 0) 0 [(0, .ref 12), (1, .ref 38)] [] I J (fun v I1 J1 => v = none ∧ I1 = q.2.1 ∧ J1 = q.2.2) := by
  intro q hq
  unfold f10_12_38 at hq
  refine pq_s hB 72 (pc' := 129) (L' := [(0, .ref 12), (1, .ref 38)]) (st' := []) (I' := (tcp (tcp (tcp (tcp (tcp (tcp (tcp (tup (tup I 12 0 (I 38 0)) 12 1 (I 38 1)) 14 0 40 0 5) 15 0 41 0 5) 16 0 42 0 5) 17 0 43 0 5) 18 0 44 0 40) 19 0 45 0 5) 20 0 46 0 5)) (J' := (tcp J 13 0 39 0 5)) (by with_unfolding_all rfl) ?_
  subst hq
  exact pq_2 (v := none) rfl rfl (by with_unfolding_all rfl) ⟨rfl, rfl, rfl⟩
-- LP$Sights.takeOver
def f91_21_47 (I : tI) (J : tJ) : Unit × tI × tJ :=
  ((), (tcp (tcp (tcp (tup I 21 0 (I 47 0)) 23 0 49 0 6) 24 0 50 0 6) 25 0 51 0 6), (tcp J 22 0 48 0 6))
set_option maxRecDepth 100000 in
theorem f91_21_47_pq {sc : List Int32} {B : xM} {n : Nat} {I : tI} {J : tJ} (hB : kB pT B) : ∀ {q : Unit × tI × tJ}, f91_21_47 I J = q → pq sc B n (xt_91, 2, 0) 0 [(0, .ref 21), (1, .ref 47)] [] I J (fun v I1 J1 => v = none ∧ I1 = q.2.1 ∧ J1 = q.2.2) := by
  intro q hq
  unfold f91_21_47 at hq
  refine pq_s hB 36 (pc' := 68) (L' := [(0, .ref 21), (1, .ref 47)]) (st' := []) (I' := (tcp (tcp (tcp (tup I 21 0 (I 47 0)) 23 0 49 0 6) 24 0 50 0 6) 25 0 51 0 6)) (J' := (tcp J 22 0 48 0 6)) (by with_unfolding_all rfl) ?_
  subst hq
  exact pq_2 (v := none) rfl rfl (by with_unfolding_all rfl) ⟨rfl, rfl, rfl⟩
-- LP$Runs.takeOver
def f72_26_52 (I : tI) (J : tJ) : Unit × tI × tJ :=
  ((), (tcp (tcp (tcp (tcp (tup (tup (tup I 26 0 (I 52 0)) 26 1 (I 52 1)) 26 2 (I 52 2)) 27 0 53 0 60) 28 0 54 0 60) 29 0 55 0 60) 30 0 56 0 60), J)
set_option maxRecDepth 100000 in
theorem f72_26_52_pq {sc : List Int32} {B : xM} {n : Nat} {I : tI} {J : tJ} (hB : kB pT B) : ∀ {q : Unit × tI × tJ}, f72_26_52 I J = q → pq sc B n (xt_72, 2, 0) 0 [(0, .ref 26), (1, .ref 52)] [] I J (fun v I1 J1 => v = none ∧ I1 = q.2.1 ∧ J1 = q.2.2) := by
  intro q hq
  unfold f72_26_52 at hq
  refine pq_s hB 44 (pc' := 84) (L' := [(0, .ref 26), (1, .ref 52)]) (st' := []) (I' := (tcp (tcp (tcp (tcp (tup (tup (tup I 26 0 (I 52 0)) 26 1 (I 52 1)) 26 2 (I 52 2)) 27 0 53 0 60) 28 0 54 0 60) 29 0 55 0 60) 30 0 56 0 60)) (J' := J) (by with_unfolding_all rfl) ?_
  subst hq
  exact pq_2 (v := none) rfl rfl (by with_unfolding_all rfl) ⟨rfl, rfl, rfl⟩
-- LP$World.takeOver
def f105_10_36 (I : tI) (J : tJ) : Unit × tI × tJ :=
  (match f42_11_37 I J with | (_, I1, J1) => (match f10_12_38 I1 J1 with | (_, I2, J2) => (match f91_21_47 I2 J2 with | (_, I3, J3) => (match f72_26_52 I3 J3 with | (_, I4, J4) => ((), (tcp (tcp (tup (tup (tup I4 10 4 (I4 36 4)) 10 5 (I4 36 5)) 10 6 (I4 36 6)) 32 0 58 0 4) 33 0 59 0 121), (tcp J4 31 0 57 0 4))))))
set_option maxRecDepth 100000 in
theorem f105_10_36_pq {sc : List Int32} {B : xM} {n : Nat} {I : tI} {J : tJ} (hB : kB pT B) : ∀ {q : Unit × tI × tJ}, f105_10_36 I J = q → pq sc B n (xt_105, 2, 0) 0 [(0, .ref 10), (1, .ref 36)] [] I J (fun v I1 J1 => v = none ∧ I1 = q.2.1 ∧ J1 = q.2.2) := by
  intro q hq
  unfold f105_10_36 at hq
  refine pq_s hB 4 (pc' := 8) (L' := [(0, .ref 10), (1, .ref 36)]) (st' := [.ref 37, .ref 11]) (I' := I) (J' := J) (by with_unfolding_all rfl) ?_
  generalize hc1 : f42_11_37 I J = q1 at hq
  obtain ⟨v1, _, _⟩ := q1
  dsimp only at hq
  refine pq_1 rfl rfl rfl rfl (f42_11_37_pq hB hc1) ?_
  rintro _ I1 J1 ⟨rfl, rfl, rfl⟩
  refine pq_s hB 4 (pc' := 19) (L' := [(0, .ref 10), (1, .ref 36)]) (st' := [.ref 38, .ref 12]) (I' := I1) (J' := J1) (by with_unfolding_all rfl) ?_
  generalize hc2 : f10_12_38 I1 J1 = q2 at hq
  obtain ⟨v2, _, _⟩ := q2
  dsimp only at hq
  refine pq_1 rfl rfl rfl rfl (f10_12_38_pq hB hc2) ?_
  rintro _ I2 J2 ⟨rfl, rfl, rfl⟩
  refine pq_s hB 4 (pc' := 30) (L' := [(0, .ref 10), (1, .ref 36)]) (st' := [.ref 47, .ref 21]) (I' := I2) (J' := J2) (by with_unfolding_all rfl) ?_
  generalize hc3 : f91_21_47 I2 J2 = q3 at hq
  obtain ⟨v3, _, _⟩ := q3
  dsimp only at hq
  refine pq_1 rfl rfl rfl rfl (f91_21_47_pq hB hc3) ?_
  rintro _ I3 J3 ⟨rfl, rfl, rfl⟩
  refine pq_s hB 4 (pc' := 41) (L' := [(0, .ref 10), (1, .ref 36)]) (st' := [.ref 52, .ref 26]) (I' := I3) (J' := J3) (by with_unfolding_all rfl) ?_
  generalize hc4 : f72_26_52 I3 J3 = q4 at hq
  obtain ⟨v4, _, _⟩ := q4
  dsimp only at hq
  refine pq_1 rfl rfl rfl rfl (f72_26_52_pq hB hc4) ?_
  rintro _ I4 J4 ⟨rfl, rfl, rfl⟩
  refine pq_s hB 36 (pc' := 111) (L' := [(0, .ref 10), (1, .ref 36)]) (st' := []) (I' := (tcp (tcp (tup (tup (tup I4 10 4 (I4 36 4)) 10 5 (I4 36 5)) 10 6 (I4 36 6)) 32 0 58 0 4) 33 0 59 0 121)) (J' := (tcp J4 31 0 57 0 4)) (by with_unfolding_all rfl) ?_
  subst hq
  exact pq_2 (v := none) rfl rfl (by with_unfolding_all rfl) ⟨rfl, rfl, rfl⟩
-- LP.answer
def f121_0 (I : tI) (J : tJ) (a0 : Int32) : Int32 × tI × tJ :=
  (a0, (tup I 0 5 0), J)
set_option maxRecDepth 100000 in
theorem f121_0_pq {sc : List Int32} {B : xM} {n : Nat} {I : tI} {J : tJ} {a0 : Int32} (hB : kB pT B) : ∀ {q : Int32 × tI × tJ}, f121_0 I J a0 = q → pq sc B n (xt_121, 2, 1) 0 [(0, .ref 0), (1, .int a0)] [] I J (fun v I1 J1 => v = some (.int q.1) ∧ I1 = q.2.1 ∧ J1 = q.2.2) := by
  intro q hq
  unfold f121_0 at hq
  refine pq_s hB 4 (pc' := 6) (L' := [(0, .ref 0), (1, .int a0)]) (st' := [.int a0]) (I' := (tup I 0 5 0)) (J' := J) (by with_unfolding_all rfl) ?_
  subst hq
  exact pq_2i (x := a0) rfl ⟨rfl, rfl, rfl⟩
-- LP.refuse
def f122_0 (I : tI) (J : tJ) (a0 : Int32) : Int32 × tI × tJ :=
  ((-1), (tup I 0 5 a0), J)
set_option maxRecDepth 100000 in
theorem f122_0_pq {sc : List Int32} {B : xM} {n : Nat} {I : tI} {J : tJ} {a0 : Int32} (hB : kB pT B) : ∀ {q : Int32 × tI × tJ}, f122_0 I J a0 = q → pq sc B n (xt_122, 2, 1) 0 [(0, .ref 0), (1, .int a0)] [] I J (fun v I1 J1 => v = some (.int q.1) ∧ I1 = q.2.1 ∧ J1 = q.2.2) := by
  intro q hq
  unfold f122_0 at hq
  refine pq_s hB 4 (pc' := 6) (L' := [(0, .ref 0), (1, .int a0)]) (st' := [.int (-1)]) (I' := (tup I 0 5 a0)) (J' := J) (by with_unfolding_all rfl) ?_
  subst hq
  exact pq_2i (x := (-1)) rfl ⟨rfl, rfl, rfl⟩
-- LP.scene
def f143_0 (N : Nat) (I : tI) (J : tJ) (a0 : Int32) : Option (Int32 × tI × tJ) :=
  (match f127 I J a0 0 (I 0 4) with | (v1, I1, J1) => bif xcmp .ne v1 0 then (match f75_35 N (tup I1 0 4 0) J1 a0 with | none => none | some (v3, I3, J3) => (match f145_0 I3 J3 with | (_, I4, J4) => bif xcmp .ne v3 0 then (match f105_10_36 I4 J4 with | (_, I6, J6) => (match f121_0 I6 J6 (I6 21 0) with | (v7, I7, J7) => some (v7, I7, J7))) else (match f122_0 I4 J4 9 with | (v8, I8, J8) => some (v8, I8, J8)))) else (match f122_0 I1 J1 1 with | (v9, I9, J9) => some (v9, I9, J9)))
set_option maxRecDepth 100000 in
theorem f143_0_pq {sc : List Int32} {B : xM} {N : Nat} {I : tI} {J : tJ} {a0 : Int32} (hB : kB pT B) : ∀ {X : Option (Int32 × tI × tJ)}, f143_0 N I J a0 = X → pq sc B N (xt_143, 3, 1) 0 [(0, .ref 0), (1, .int a0)] [] I J (fun v I1 J1 => ∃ a, v = some (.int a) ∧ X = some (a, I1, J1)) := by
  intro X hq
  unfold f143_0 at hq
  have hle : N ≤ N := Nat.le_refl N
  refine pq_s hB 4 (pc' := 6) (L' := [(0, .ref 0), (1, .int a0)]) (st' := [.int (I 0 4), .int 0, .int a0]) (I' := I) (J' := J) (by with_unfolding_all rfl) ?_
  generalize hc1 : f127 I J a0 0 (I 0 4) = q1 at hq
  obtain ⟨v1, _, _⟩ := q1
  dsimp only at hq
  refine pq_1 rfl rfl rfl rfl (f127_pq hB hc1) ?_
  rintro _ I1 J1 ⟨rfl, rfl, rfl⟩
  refine pq_ifn hB rfl (fun h2 => ?_) (fun h2 => ?_)
  · rw [h2, cond_true] at hq
    refine pq_s hB 6 (pc' := 28) (L' := [(0, .ref 0), (1, .int a0)]) (st' := [.int a0, .ref 35]) (I' := (tup I1 0 4 0)) (J' := J1) (by with_unfolding_all rfl) ?_
    refine pq_1 rfl rfl rfl rfl (pq_le hle (f75_35_pq hB rfl)) ?_
    rintro _ I3 J3 ⟨v3, rfl, hc3⟩
    rw [hc3] at hq
    dsimp only at hq
    refine pq_s hB 2 (pc' := 33) (L' := [(2, .int v3), (0, .ref 0), (1, .int a0)]) (st' := [.ref 0]) (I' := I3) (J' := J3) (by with_unfolding_all rfl) ?_
    generalize hc4 : f145_0 I3 J3 = q4 at hq
    obtain ⟨v4, _, _⟩ := q4
    dsimp only at hq
    refine pq_1 rfl rfl rfl rfl (f145_0_pq hB hc4) ?_
    rintro _ I4 J4 ⟨rfl, rfl, rfl⟩
    refine pq_s hB 1 (pc' := 37) (L' := [(2, .int v3), (0, .ref 0), (1, .int a0)]) (st' := [.int v3]) (I' := I4) (J' := J4) (by with_unfolding_all rfl) ?_
    refine pq_ifn hB rfl (fun h5 => ?_) (fun h5 => ?_)
    · rw [h5, cond_true] at hq
      refine pq_s hB 5 (pc' := 58) (L' := [(2, .int v3), (0, .ref 0), (1, .int a0)]) (st' := [.ref 36, .ref 10]) (I' := I4) (J' := J4) (by with_unfolding_all rfl) ?_
      generalize hc6 : f105_10_36 I4 J4 = q6 at hq
      obtain ⟨v6, _, _⟩ := q6
      dsimp only at hq
      refine pq_1 rfl rfl rfl rfl (f105_10_36_pq hB hc6) ?_
      rintro _ I6 J6 ⟨rfl, rfl, rfl⟩
      refine pq_s hB 5 (pc' := 72) (L' := [(2, .int v3), (0, .ref 0), (1, .int a0)]) (st' := [.int (I6 21 0), .ref 0]) (I' := I6) (J' := J6) (by with_unfolding_all rfl) ?_
      generalize hc7 : f121_0 I6 J6 (I6 21 0) = q7 at hq
      obtain ⟨v7, _, _⟩ := q7
      dsimp only at hq
      refine pq_1 rfl rfl rfl rfl (f121_0_pq hB hc7) ?_
      rintro _ I7 J7 ⟨rfl, rfl, rfl⟩
      subst hq
      exact pq_2i (x := v7) rfl ⟨_, rfl, rfl⟩
    · rw [h5, cond_false] at hq
      refine pq_s hB 2 (pc' := 43) (L' := [(2, .int v3), (0, .ref 0), (1, .int a0)]) (st' := [.int 9, .ref 0]) (I' := I4) (J' := J4) (by with_unfolding_all rfl) ?_
      generalize hc8 : f122_0 I4 J4 9 = q8 at hq
      obtain ⟨v8, _, _⟩ := q8
      dsimp only at hq
      refine pq_1 rfl rfl rfl rfl (f122_0_pq hB hc8) ?_
      rintro _ I8 J8 ⟨rfl, rfl, rfl⟩
      subst hq
      exact pq_2i (x := v8) rfl ⟨_, rfl, rfl⟩
  · rw [h2, cond_false] at hq
    refine pq_s hB 2 (pc' := 14) (L' := [(0, .ref 0), (1, .int a0)]) (st' := [.int 1, .ref 0]) (I' := I1) (J' := J1) (by with_unfolding_all rfl) ?_
    generalize hc9 : f122_0 I1 J1 1 = q9 at hq
    obtain ⟨v9, _, _⟩ := q9
    dsimp only at hq
    refine pq_1 rfl rfl rfl rfl (f122_0_pq hB hc9) ?_
    rintro _ I9 J9 ⟨rfl, rfl, rfl⟩
    subst hq
    exact pq_2i (x := v9) rfl ⟨_, rfl, rfl⟩
-- LPModel.begins, the loop at 26, to [49]
def f226_185_l26 (N : Nat) : Nat → tI → tJ → Int32 → Int32 → Option (Int32 × Int32 × tI × tJ)
  | 0, _, _, _, _ => none
  | k + 1, I, J, x1, x3 =>
    bif xcmp .ge x3 x1 then some (x1, x3, I, J) else f226_185_l26 N k (tup I 192 ((x3).toNatClampNeg) (((I 191 (x3).toNatClampNeg)).toInt8.toInt32)) J x1 (x3 + 1)
set_option maxRecDepth 100000 in
theorem f226_185_l26_pq {sc : List Int32} {B : xM} {N : Nat} {P : Option Value → tI → tJ → Prop} (hB : kB pT B) : ∀ (k : Nat), k ≤ N → ∀ (b m : Nat), b ≤ k → b ≤ m → ∀ {I : tI} {J : tJ} {x1 : Int32} {x3 : Int32} {Y : Option (Int32 × Int32 × tI × tJ)}, f226_185_l26 N k I J x1 x3 = Y → (∀ {y1 : Int32} {y3 : Int32} {I1 : tI} {J1 : tJ}, Y = some (y1, y3, I1, J1) → pq sc B m (xt_226, 4, 3) 49 [(0, .ref 185), (1, .int y1), (3, .int y3)] [] I1 J1 P) → pq sc B b (xt_226, 4, 3) 26 [(0, .ref 185), (1, .int x1), (3, .int x3)] [] I J P
  | 0, _, b, _, hb, _, _, _, _, _, _, _, _ => by
    have e : b = 0 := by omega
    subst e
    exact pq_zero
  | _ + 1, _, 0, _, _, _, _, _, _, _, _, _, _ => pq_zero
  | k + 1, hk, b + 1, m, hb, hm, I, J, x1, x3, Y, hq, hx0 => by
    unfold f226_185_l26 at hq
    have hle : b ≤ N := by omega
    refine pq_s1 hB 1 (pc' := 28) (L' := [(0, .ref 185), (1, .int x1), (3, .int x3)]) (st' := [.int x1, .int x3]) (I' := I) (J' := J) (by with_unfolding_all rfl) ?_
    refine pq_icn hB rfl (fun h4 => ?_) (fun h4 => ?_)
    · rw [h4, cond_true] at hq
      exact pq_le (by omega) (hx0 hq.symm)
    · rw [h4, cond_false] at hq
      refine pq_s hB 10 (pc' := 26) (L' := [(3, .int (x3 + 1)), (0, .ref 185), (1, .int x1)]) (st' := []) (I' := (tup I 192 ((x3).toNatClampNeg) (((I 191 (x3).toNatClampNeg)).toInt8.toInt32))) (J' := J) (by with_unfolding_all rfl) ?_
      refine pq_perm (L := [(0, .ref 185), (1, .int x1), (3, .int (x3 + 1))]) (leqn_of ⟨rfl, rfl, rfl, trivial⟩ ⟨rfl, rfl, rfl, trivial⟩ ⟨rfl, rfl, rfl, trivial⟩) ?_
      exact f226_185_l26_pq hB k (by omega) b m (by omega) (by omega) hq hx0
-- LPModel.byteAt
def f219_185 (I : tI) (J : tJ) (a0 : Int32) : Int32 × tI × tJ :=
  bif xcmp .ge a0 (I 185 11) then ((-1), I, J) else (((I 192 (a0).toNatClampNeg) &&& 255), I, J)
set_option maxRecDepth 100000 in
theorem f219_185_pq {sc : List Int32} {B : xM} {n : Nat} {I : tI} {J : tJ} {a0 : Int32} (hB : kB pT B) : ∀ {q : Int32 × tI × tJ}, f219_185 I J a0 = q → pq sc B n (xt_219, 2, 1) 0 [(0, .ref 185), (1, .int a0)] [] I J (fun v I1 J1 => v = some (.int q.1) ∧ I1 = q.2.1 ∧ J1 = q.2.2) := by
  intro q hq
  unfold f219_185 at hq
  refine pq_s hB 3 (pc' := 5) (L' := [(0, .ref 185), (1, .int a0)]) (st' := [.int (I 185 11), .int a0]) (I' := I) (J' := J) (by with_unfolding_all rfl) ?_
  refine pq_icn hB rfl (fun h1 => ?_) (fun h1 => ?_)
  · rw [h1, cond_true] at hq
    refine pq_s hB 1 (pc' := 22) (L' := [(0, .ref 185), (1, .int a0)]) (st' := [.int (-1)]) (I' := I) (J' := J) (by with_unfolding_all rfl) ?_
    subst hq
    exact pq_2i (x := (-1)) rfl ⟨rfl, rfl, rfl⟩
  · rw [h1, cond_false] at hq
    refine pq_s hB 7 (pc' := 22) (L' := [(0, .ref 185), (1, .int a0)]) (st' := [.int ((I 192 (a0).toNatClampNeg) &&& 255)]) (I' := I) (J' := J) (by with_unfolding_all rfl) ?_
    subst hq
    exact pq_2i (x := ((I 192 (a0).toNatClampNeg) &&& 255)) rfl ⟨rfl, rfl, rfl⟩
-- LPModel.ahead, the loop at 0, to [39]
def f222_185_l0 (N : Nat) : Nat → tI → tJ → Option (tI × tJ)
  | 0, _, _ => none
  | k + 1, I, J =>
    (match f219_185 I J (I 185 14) with | (v1, I1, J1) => bif xcmp .eq v1 32 then f222_185_l0 N k (tup I1 185 14 ((I1 185 14) + 1)) J1 else (match f219_185 I1 J1 (I1 185 14) with | (v3, I3, J3) => bif xcmp .ne v3 10 then some (I3, J3) else f222_185_l0 N k (tup I3 185 14 ((I3 185 14) + 1)) J3))
set_option maxRecDepth 100000 in
theorem f222_185_l0_pq {sc : List Int32} {B : xM} {N : Nat} {P : Option Value → tI → tJ → Prop} (hB : kB pT B) : ∀ (k : Nat), k ≤ N → ∀ (b m : Nat), b ≤ k → b ≤ m → ∀ {I : tI} {J : tJ} {Y : Option (tI × tJ)}, f222_185_l0 N k I J = Y → (∀ {I1 : tI} {J1 : tJ}, Y = some (I1, J1) → pq sc B m (xt_222, 2, 0) 39 [(0, .ref 185)] [] I1 J1 P) → pq sc B b (xt_222, 2, 0) 0 [(0, .ref 185)] [] I J P
  | 0, _, b, _, hb, _, _, _, _, _, _ => by
    have e : b = 0 := by omega
    subst e
    exact pq_zero
  | _ + 1, _, 0, _, _, _, _, _, _, _, _ => pq_zero
  | k + 1, hk, b + 1, m, hb, hm, I, J, Y, hq, hx0 => by
    unfold f222_185_l0 at hq
    have hle : b ≤ N := by omega
    refine pq_s1 hB 2 (pc' := 5) (L' := [(0, .ref 185)]) (st' := [.int (I 185 14), .ref 185]) (I' := I) (J' := J) (by with_unfolding_all rfl) ?_
    generalize hc1 : f219_185 I J (I 185 14) = q1 at hq
    obtain ⟨v1, _, _⟩ := q1
    dsimp only at hq
    refine pq_1 rfl rfl rfl rfl (f219_185_pq hB hc1) ?_
    rintro _ I1 J1 ⟨rfl, rfl, rfl⟩
    refine pq_s hB 1 (pc' := 10) (L' := [(0, .ref 185)]) (st' := [.int 32, .int v1]) (I' := I1) (J' := J1) (by with_unfolding_all rfl) ?_
    refine pq_icn hB rfl (fun h2 => ?_) (fun h2 => ?_)
    · rw [h2, cond_true] at hq
      refine pq_s hB 7 (pc' := 0) (L' := [(0, .ref 185)]) (st' := []) (I' := (tup I1 185 14 ((I1 185 14) + 1))) (J' := J1) (by with_unfolding_all rfl) ?_
      exact f222_185_l0_pq hB k (by omega) b m (by omega) (by omega) hq hx0
    · rw [h2, cond_false] at hq
      refine pq_s hB 3 (pc' := 18) (L' := [(0, .ref 185)]) (st' := [.int (I1 185 14), .ref 185]) (I' := I1) (J' := J1) (by with_unfolding_all rfl) ?_
      generalize hc3 : f219_185 I1 J1 (I1 185 14) = q3 at hq
      obtain ⟨v3, _, _⟩ := q3
      dsimp only at hq
      refine pq_1 rfl rfl rfl rfl (f219_185_pq hB hc3) ?_
      rintro _ I3 J3 ⟨rfl, rfl, rfl⟩
      refine pq_s hB 1 (pc' := 23) (L' := [(0, .ref 185)]) (st' := [.int 10, .int v3]) (I' := I3) (J' := J3) (by with_unfolding_all rfl) ?_
      refine pq_icn hB rfl (fun h4 => ?_) (fun h4 => ?_)
      · rw [h4, cond_true] at hq
        exact pq_le (by omega) (hx0 hq.symm)
      · rw [h4, cond_false] at hq
        refine pq_s hB 7 (pc' := 0) (L' := [(0, .ref 185)]) (st' := []) (I' := (tup I3 185 14 ((I3 185 14) + 1))) (J' := J3) (by with_unfolding_all rfl) ?_
        exact f222_185_l0_pq hB k (by omega) b m (by omega) (by omega) hq hx0
-- LPModel.isSmall
def f220 (I : tI) (J : tJ) (a0 : Int32) : Int32 × tI × tJ :=
  bif xcmp .lt a0 97 then (0, I, J) else bif xcmp .gt a0 122 then (0, I, J) else (1, I, J)
set_option maxRecDepth 100000 in
theorem f220_pq {sc : List Int32} {B : xM} {n : Nat} {I : tI} {J : tJ} {a0 : Int32} (hB : kB pT B) : ∀ {q : Int32 × tI × tJ}, f220 I J a0 = q → pq sc B n (xt_220, 1, 3) 0 [(0, .int a0)] [] I J (fun v I1 J1 => v = some (.int q.1) ∧ I1 = q.2.1 ∧ J1 = q.2.2) := by
  intro q hq
  unfold f220 at hq
  refine pq_s hB 2 (pc' := 3) (L' := [(0, .int a0)]) (st' := [.int 97, .int a0]) (I' := I) (J' := J) (by with_unfolding_all rfl) ?_
  refine pq_icn hB rfl (fun h1 => ?_) (fun h1 => ?_)
  · rw [h1, cond_true] at hq
    refine pq_s hB 1 (pc' := 17) (L' := [(0, .int a0)]) (st' := [.int 0]) (I' := I) (J' := J) (by with_unfolding_all rfl) ?_
    subst hq
    exact pq_2i (x := 0) rfl ⟨rfl, rfl, rfl⟩
  · rw [h1, cond_false] at hq
    refine pq_s hB 2 (pc' := 9) (L' := [(0, .int a0)]) (st' := [.int 122, .int a0]) (I' := I) (J' := J) (by with_unfolding_all rfl) ?_
    refine pq_icn hB rfl (fun h2 => ?_) (fun h2 => ?_)
    · rw [h2, cond_true] at hq
      refine pq_s hB 1 (pc' := 17) (L' := [(0, .int a0)]) (st' := [.int 0]) (I' := I) (J' := J) (by with_unfolding_all rfl) ?_
      subst hq
      exact pq_2i (x := 0) rfl ⟨rfl, rfl, rfl⟩
    · rw [h2, cond_false] at hq
      refine pq_s hB 2 (pc' := 17) (L' := [(0, .int a0)]) (st' := [.int 1]) (I' := I) (J' := J) (by with_unfolding_all rfl) ?_
      subst hq
      exact pq_2i (x := 1) rfl ⟨rfl, rfl, rfl⟩
-- LPModel.isDigit
def f221 (I : tI) (J : tJ) (a0 : Int32) : Int32 × tI × tJ :=
  bif xcmp .lt a0 48 then (0, I, J) else bif xcmp .gt a0 57 then (0, I, J) else (1, I, J)
set_option maxRecDepth 100000 in
theorem f221_pq {sc : List Int32} {B : xM} {n : Nat} {I : tI} {J : tJ} {a0 : Int32} (hB : kB pT B) : ∀ {q : Int32 × tI × tJ}, f221 I J a0 = q → pq sc B n (xt_221, 1, 3) 0 [(0, .int a0)] [] I J (fun v I1 J1 => v = some (.int q.1) ∧ I1 = q.2.1 ∧ J1 = q.2.2) := by
  intro q hq
  unfold f221 at hq
  refine pq_s hB 2 (pc' := 3) (L' := [(0, .int a0)]) (st' := [.int 48, .int a0]) (I' := I) (J' := J) (by with_unfolding_all rfl) ?_
  refine pq_icn hB rfl (fun h1 => ?_) (fun h1 => ?_)
  · rw [h1, cond_true] at hq
    refine pq_s hB 1 (pc' := 17) (L' := [(0, .int a0)]) (st' := [.int 0]) (I' := I) (J' := J) (by with_unfolding_all rfl) ?_
    subst hq
    exact pq_2i (x := 0) rfl ⟨rfl, rfl, rfl⟩
  · rw [h1, cond_false] at hq
    refine pq_s hB 2 (pc' := 9) (L' := [(0, .int a0)]) (st' := [.int 57, .int a0]) (I' := I) (J' := J) (by with_unfolding_all rfl) ?_
    refine pq_icn hB rfl (fun h2 => ?_) (fun h2 => ?_)
    · rw [h2, cond_true] at hq
      refine pq_s hB 1 (pc' := 17) (L' := [(0, .int a0)]) (st' := [.int 0]) (I' := I) (J' := J) (by with_unfolding_all rfl) ?_
      subst hq
      exact pq_2i (x := 0) rfl ⟨rfl, rfl, rfl⟩
    · rw [h2, cond_false] at hq
      refine pq_s hB 2 (pc' := 17) (L' := [(0, .int a0)]) (st' := [.int 1]) (I' := I) (J' := J) (by with_unfolding_all rfl) ?_
      subst hq
      exact pq_2i (x := 1) rfl ⟨rfl, rfl, rfl⟩
-- LPModel.ahead, the loop at 128, to [183]
def f222_185_l128 (N : Nat) : Nat → tI → tJ → Option (tI × tJ)
  | 0, _, _ => none
  | k + 1, I, J =>
    (match f219_185 I J (I 185 14) with | (v12, I12, J12) => (match f221 I12 J12 v12 with | (v13, I13, J13) => bif xcmp .eq v13 0 then some (I13, J13) else (match f219_185 I13 J13 (I13 185 14) with | (v15, I15, J15) => f222_185_l128 N k (tup (tup I15 185 15 (if (((10 * (I13 185 15)) + v15) - 48) < 100000 then (((10 * (I13 185 15)) + v15) - 48) else 100000)) 185 14 ((I15 185 14) + 1)) J15)))
set_option maxRecDepth 100000 in
theorem f222_185_l128_pq {sc : List Int32} {B : xM} {N : Nat} {P : Option Value → tI → tJ → Prop} (hB : kB pT B) : ∀ (k : Nat), k ≤ N → ∀ (b m : Nat), b ≤ k → b ≤ m → ∀ {I : tI} {J : tJ} {Y : Option (tI × tJ)}, f222_185_l128 N k I J = Y → (∀ {I1 : tI} {J1 : tJ}, Y = some (I1, J1) → pq sc B m (xt_222, 2, 0) 183 [(0, .ref 185)] [] I1 J1 P) → pq sc B b (xt_222, 2, 0) 128 [(0, .ref 185)] [] I J P
  | 0, _, b, _, hb, _, _, _, _, _, _ => by
    have e : b = 0 := by omega
    subst e
    exact pq_zero
  | _ + 1, _, 0, _, _, _, _, _, _, _, _ => pq_zero
  | k + 1, hk, b + 1, m, hb, hm, I, J, Y, hq, hx0 => by
    unfold f222_185_l128 at hq
    have hle : b ≤ N := by omega
    refine pq_s1 hB 2 (pc' := 133) (L' := [(0, .ref 185)]) (st' := [.int (I 185 14), .ref 185]) (I' := I) (J' := J) (by with_unfolding_all rfl) ?_
    generalize hc12 : f219_185 I J (I 185 14) = q12 at hq
    obtain ⟨v12, _, _⟩ := q12
    dsimp only at hq
    refine pq_1 rfl rfl rfl rfl (f219_185_pq hB hc12) ?_
    rintro _ I12 J12 ⟨rfl, rfl, rfl⟩
    generalize hc13 : f221 I12 J12 v12 = q13 at hq
    obtain ⟨v13, _, _⟩ := q13
    dsimp only at hq
    refine pq_1 rfl rfl rfl rfl (f221_pq hB hc13) ?_
    rintro _ I13 J13 ⟨rfl, rfl, rfl⟩
    refine pq_ifn hB rfl (fun h14 => ?_) (fun h14 => ?_)
    · rw [h14, cond_true] at hq
      exact pq_le (by omega) (hx0 hq.symm)
    · rw [h14, cond_false] at hq
      refine pq_s hB 9 (pc' := 157) (L' := [(0, .ref 185)]) (st' := [.int (I13 185 14), .ref 185, .int (10 * (I13 185 15)), .int 100000, .ref 185]) (I' := I13) (J' := J13) (by with_unfolding_all rfl) ?_
      generalize hc15 : f219_185 I13 J13 (I13 185 14) = q15 at hq
      obtain ⟨v15, _, _⟩ := q15
      dsimp only at hq
      refine pq_1 rfl rfl rfl rfl (f219_185_pq hB hc15) ?_
      rintro _ I15 J15 ⟨rfl, rfl, rfl⟩
      refine pq_s hB 12 (pc' := 128) (L' := [(0, .ref 185)]) (st' := []) (I' := (tup (tup I15 185 15 (if (((10 * (I13 185 15)) + v15) - 48) < 100000 then (((10 * (I13 185 15)) + v15) - 48) else 100000)) 185 14 ((I15 185 14) + 1))) (J' := J15) (by with_unfolding_all rfl) ?_
      exact f222_185_l128_pq hB k (by omega) b m (by omega) (by omega) hq hx0
-- LPModel.ahead, the loop at 81, to [108]
def f222_185_l81 (N : Nat) : Nat → tI → tJ → Option (tI × tJ)
  | 0, _, _ => none
  | k + 1, I, J =>
    (match f219_185 I J (I 185 14) with | (v14, I14, J14) => (match f220 I14 J14 v14 with | (v15, I15, J15) => bif xcmp .eq v15 0 then some (I15, J15) else f222_185_l81 N k (tup I15 185 14 ((I15 185 14) + 1)) J15))
set_option maxRecDepth 100000 in
theorem f222_185_l81_pq {sc : List Int32} {B : xM} {N : Nat} {P : Option Value → tI → tJ → Prop} (hB : kB pT B) : ∀ (k : Nat), k ≤ N → ∀ (b m : Nat), b ≤ k → b ≤ m → ∀ {I : tI} {J : tJ} {Y : Option (tI × tJ)}, f222_185_l81 N k I J = Y → (∀ {I1 : tI} {J1 : tJ}, Y = some (I1, J1) → pq sc B m (xt_222, 2, 0) 108 [(0, .ref 185)] [] I1 J1 P) → pq sc B b (xt_222, 2, 0) 81 [(0, .ref 185)] [] I J P
  | 0, _, b, _, hb, _, _, _, _, _, _ => by
    have e : b = 0 := by omega
    subst e
    exact pq_zero
  | _ + 1, _, 0, _, _, _, _, _, _, _, _ => pq_zero
  | k + 1, hk, b + 1, m, hb, hm, I, J, Y, hq, hx0 => by
    unfold f222_185_l81 at hq
    have hle : b ≤ N := by omega
    refine pq_s1 hB 2 (pc' := 86) (L' := [(0, .ref 185)]) (st' := [.int (I 185 14), .ref 185]) (I' := I) (J' := J) (by with_unfolding_all rfl) ?_
    generalize hc14 : f219_185 I J (I 185 14) = q14 at hq
    obtain ⟨v14, _, _⟩ := q14
    dsimp only at hq
    refine pq_1 rfl rfl rfl rfl (f219_185_pq hB hc14) ?_
    rintro _ I14 J14 ⟨rfl, rfl, rfl⟩
    generalize hc15 : f220 I14 J14 v14 = q15 at hq
    obtain ⟨v15, _, _⟩ := q15
    dsimp only at hq
    refine pq_1 rfl rfl rfl rfl (f220_pq hB hc15) ?_
    rintro _ I15 J15 ⟨rfl, rfl, rfl⟩
    refine pq_ifn hB rfl (fun h16 => ?_) (fun h16 => ?_)
    · rw [h16, cond_true] at hq
      exact pq_le (by omega) (hx0 hq.symm)
    · rw [h16, cond_false] at hq
      refine pq_s hB 7 (pc' := 81) (L' := [(0, .ref 185)]) (st' := []) (I' := (tup I15 185 14 ((I15 185 14) + 1))) (J' := J15) (by with_unfolding_all rfl) ?_
      exact f222_185_l81_pq hB k (by omega) b m (by omega) (by omega) hq hx0
-- LPModel.ahead
def f222_185 (N : Nat) (I : tI) (J : tJ) : Option (Unit × tI × tJ) :=
  (match f222_185_l0 N N I J with | none => none | some (I1, J1) => (match f219_185 (tup I1 185 13 (I1 185 14)) J1 (I1 185 14) with | (v2, I2, J2) => bif xcmp .ne v2 (-1) then (match f220 (tup I2 185 15 v2) J2 v2 with | (v4, I4, J4) => bif xcmp .eq v4 0 then (match f221 I4 J4 v2 with | (v6, I6, J6) => bif xcmp .eq v6 0 then (bif xcmp .eq v2 59 then some ((), (tup (tup I6 185 14 ((I6 185 14) + 1)) 185 12 4), J6) else bif xcmp .eq v2 60 then some ((), (tup (tup I6 185 14 ((I6 185 14) + 1)) 185 12 4), J6) else bif xcmp .eq v2 62 then some ((), (tup (tup I6 185 14 ((I6 185 14) + 1)) 185 12 4), J6) else bif xcmp .ne v2 61 then some ((), (tup (tup I6 185 14 ((I6 185 14) + 1)) 185 12 1), J6) else some ((), (tup (tup I6 185 14 ((I6 185 14) + 1)) 185 12 4), J6)) else (match f222_185_l128 N N (tup I6 185 15 0) J6 with | none => none | some (I12, J12) => bif xcmp .le ((I12 185 14) - (I12 185 13)) 4 then some ((), (tup I12 185 12 3), J12) else some ((), (tup I12 185 12 1), J12))) else (match f222_185_l81 N N I4 J4 with | none => none | some (I14, J14) => some ((), (tup I14 185 12 2), J14))) else some ((), (tup (tup I2 185 15 v2) 185 12 0), J2)))
set_option maxRecDepth 100000 in
theorem f222_185_pq {sc : List Int32} {B : xM} {N : Nat} {I : tI} {J : tJ} (hB : kB pT B) : ∀ {X : Option (Unit × tI × tJ)}, f222_185 N I J = X → pq sc B N (xt_222, 2, 0) 0 [(0, .ref 185)] [] I J (fun v I1 J1 => v = none ∧ X = some ((), I1, J1)) := by
  intro X hq
  unfold f222_185 at hq
  have hle : N ≤ N := Nat.le_refl N
  refine f222_185_l0_pq hB N (Nat.le_refl N) N N hle (Nat.le_refl N) rfl ?_
  intro I1 J1 hc1
  rw [hc1] at hq
  dsimp only at hq
  refine pq_s hB 7 (pc' := 52) (L' := [(0, .ref 185)]) (st' := [.int (I1 185 14), .ref 185]) (I' := (tup I1 185 13 (I1 185 14))) (J' := J1) (by with_unfolding_all rfl) ?_
  generalize hc2 : f219_185 (tup I1 185 13 (I1 185 14)) J1 (I1 185 14) = q2 at hq
  obtain ⟨v2, _, _⟩ := q2
  dsimp only at hq
  refine pq_1 rfl rfl rfl rfl (f219_185_pq hB hc2) ?_
  rintro _ I2 J2 ⟨rfl, rfl, rfl⟩
  refine pq_s hB 6 (pc' := 63) (L' := [(1, .int v2), (0, .ref 185)]) (st' := [.int (-1), .int v2]) (I' := (tup I2 185 15 v2)) (J' := J2) (by with_unfolding_all rfl) ?_
  refine pq_icn hB rfl (fun h3 => ?_) (fun h3 => ?_)
  · rw [h3, cond_true] at hq
    refine pq_s hB 1 (pc' := 75) (L' := [(1, .int v2), (0, .ref 185)]) (st' := [.int v2]) (I' := (tup I2 185 15 v2)) (J' := J2) (by with_unfolding_all rfl) ?_
    generalize hc4 : f220 (tup I2 185 15 v2) J2 v2 = q4 at hq
    obtain ⟨v4, _, _⟩ := q4
    dsimp only at hq
    refine pq_1 rfl rfl rfl rfl (f220_pq hB hc4) ?_
    rintro _ I4 J4 ⟨rfl, rfl, rfl⟩
    refine pq_ifn hB rfl (fun h5 => ?_) (fun h5 => ?_)
    · rw [h5, cond_true] at hq
      refine pq_s hB 1 (pc' := 117) (L' := [(1, .int v2), (0, .ref 185)]) (st' := [.int v2]) (I' := I4) (J' := J4) (by with_unfolding_all rfl) ?_
      generalize hc6 : f221 I4 J4 v2 = q6 at hq
      obtain ⟨v6, _, _⟩ := q6
      dsimp only at hq
      refine pq_1 rfl rfl rfl rfl (f221_pq hB hc6) ?_
      rintro _ I6 J6 ⟨rfl, rfl, rfl⟩
      refine pq_ifn hB rfl (fun h7 => ?_) (fun h7 => ?_)
      · rw [h7, cond_true] at hq
        refine pq_s hB 9 (pc' := 222) (L' := [(1, .int v2), (0, .ref 185)]) (st' := [.int 59, .int v2, .ref 185]) (I' := (tup I6 185 14 ((I6 185 14) + 1))) (J' := J6) (by with_unfolding_all rfl) ?_
        refine pq_icn hB rfl (fun h8 => ?_) (fun h8 => ?_)
        · rw [h8, cond_true] at hq
          refine pq_s hB 3 (pc' := 251) (L' := [(1, .int v2), (0, .ref 185)]) (st' := []) (I' := (tup (tup I6 185 14 ((I6 185 14) + 1)) 185 12 4)) (J' := J6) (by with_unfolding_all rfl) ?_
          subst hq
          exact pq_2 (v := none) rfl rfl (by with_unfolding_all rfl) ⟨rfl, rfl⟩
        · rw [h8, cond_false] at hq
          refine pq_s hB 2 (pc' := 228) (L' := [(1, .int v2), (0, .ref 185)]) (st' := [.int 60, .int v2, .ref 185]) (I' := (tup I6 185 14 ((I6 185 14) + 1))) (J' := J6) (by with_unfolding_all rfl) ?_
          refine pq_icn hB rfl (fun h9 => ?_) (fun h9 => ?_)
          · rw [h9, cond_true] at hq
            refine pq_s hB 3 (pc' := 251) (L' := [(1, .int v2), (0, .ref 185)]) (st' := []) (I' := (tup (tup I6 185 14 ((I6 185 14) + 1)) 185 12 4)) (J' := J6) (by with_unfolding_all rfl) ?_
            subst hq
            exact pq_2 (v := none) rfl rfl (by with_unfolding_all rfl) ⟨rfl, rfl⟩
          · rw [h9, cond_false] at hq
            refine pq_s hB 2 (pc' := 234) (L' := [(1, .int v2), (0, .ref 185)]) (st' := [.int 62, .int v2, .ref 185]) (I' := (tup I6 185 14 ((I6 185 14) + 1))) (J' := J6) (by with_unfolding_all rfl) ?_
            refine pq_icn hB rfl (fun h10 => ?_) (fun h10 => ?_)
            · rw [h10, cond_true] at hq
              refine pq_s hB 3 (pc' := 251) (L' := [(1, .int v2), (0, .ref 185)]) (st' := []) (I' := (tup (tup I6 185 14 ((I6 185 14) + 1)) 185 12 4)) (J' := J6) (by with_unfolding_all rfl) ?_
              subst hq
              exact pq_2 (v := none) rfl rfl (by with_unfolding_all rfl) ⟨rfl, rfl⟩
            · rw [h10, cond_false] at hq
              refine pq_s hB 2 (pc' := 240) (L' := [(1, .int v2), (0, .ref 185)]) (st' := [.int 61, .int v2, .ref 185]) (I' := (tup I6 185 14 ((I6 185 14) + 1))) (J' := J6) (by with_unfolding_all rfl) ?_
              refine pq_icn hB rfl (fun h11 => ?_) (fun h11 => ?_)
              · rw [h11, cond_true] at hq
                refine pq_s hB 2 (pc' := 251) (L' := [(1, .int v2), (0, .ref 185)]) (st' := []) (I' := (tup (tup I6 185 14 ((I6 185 14) + 1)) 185 12 1)) (J' := J6) (by with_unfolding_all rfl) ?_
                subst hq
                exact pq_2 (v := none) rfl rfl (by with_unfolding_all rfl) ⟨rfl, rfl⟩
              · rw [h11, cond_false] at hq
                refine pq_s hB 3 (pc' := 251) (L' := [(1, .int v2), (0, .ref 185)]) (st' := []) (I' := (tup (tup I6 185 14 ((I6 185 14) + 1)) 185 12 4)) (J' := J6) (by with_unfolding_all rfl) ?_
                subst hq
                exact pq_2 (v := none) rfl rfl (by with_unfolding_all rfl) ⟨rfl, rfl⟩
      · rw [h7, cond_false] at hq
        refine pq_s hB 3 (pc' := 128) (L' := [(1, .int v2), (0, .ref 185)]) (st' := []) (I' := (tup I6 185 15 0)) (J' := J6) (by with_unfolding_all rfl) ?_
        refine pq_perm (L := [(0, .ref 185)]) (leqn_of ⟨rfl, trivial⟩ ⟨rfl, trivial⟩ ⟨rfl, rfl, trivial⟩) ?_
        refine f222_185_l128_pq hB N (Nat.le_refl N) N N hle (Nat.le_refl N) rfl ?_
        intro I12 J12 hc12
        rw [hc12] at hq
        dsimp only at hq
        refine pq_s hB 7 (pc' := 194) (L' := [(0, .ref 185)]) (st' := [.int 4, .int ((I12 185 14) - (I12 185 13)), .ref 185]) (I' := I12) (J' := J12) (by with_unfolding_all rfl) ?_
        refine pq_icn hB rfl (fun h13 => ?_) (fun h13 => ?_)
        · rw [h13, cond_true] at hq
          refine pq_s hB 3 (pc' := 251) (L' := [(0, .ref 185)]) (st' := []) (I' := (tup I12 185 12 3)) (J' := J12) (by with_unfolding_all rfl) ?_
          subst hq
          exact pq_2 (v := none) rfl rfl (by with_unfolding_all rfl) ⟨rfl, rfl⟩
        · rw [h13, cond_false] at hq
          refine pq_s hB 4 (pc' := 251) (L' := [(0, .ref 185)]) (st' := []) (I' := (tup I12 185 12 1)) (J' := J12) (by with_unfolding_all rfl) ?_
          subst hq
          exact pq_2 (v := none) rfl rfl (by with_unfolding_all rfl) ⟨rfl, rfl⟩
    · rw [h5, cond_false] at hq
      refine pq_perm (L := [(0, .ref 185)]) (leqn_of ⟨rfl, trivial⟩ ⟨rfl, trivial⟩ ⟨rfl, rfl, trivial⟩) ?_
      refine f222_185_l81_pq hB N (Nat.le_refl N) N N hle (Nat.le_refl N) rfl ?_
      intro I14 J14 hc14
      rw [hc14] at hq
      dsimp only at hq
      refine pq_s hB 4 (pc' := 251) (L' := [(0, .ref 185)]) (st' := []) (I' := (tup I14 185 12 2)) (J' := J14) (by with_unfolding_all rfl) ?_
      subst hq
      exact pq_2 (v := none) rfl rfl (by with_unfolding_all rfl) ⟨rfl, rfl⟩
  · rw [h3, cond_false] at hq
    refine pq_s hB 4 (pc' := 251) (L' := [(1, .int v2), (0, .ref 185)]) (st' := []) (I' := (tup (tup I2 185 15 v2) 185 12 0)) (J' := J2) (by with_unfolding_all rfl) ?_
    subst hq
    exact pq_2 (v := none) rfl rfl (by with_unfolding_all rfl) ⟨rfl, rfl⟩
-- LPModel.begins
def f226_185 (N : Nat) (I : tI) (J : tJ) (a0 : Int32) (a1 : Int32) : Option (Int32 × tI × tJ) :=
  bif xcmp .lt a0 0 then some (0, I, J) else bif xcmp .gt a0 (I 185 10) then some (0, I, J) else bif xcmp .le a0 a1 then (match f226_185_l26 N N (tup I 185 11 a0) J a0 0 with | none => none | some (y4_1, y4_3, I4, J4) => (match f222_185 N (tup (tup (tup (tup (tup I4 185 10 0) 185 18 0) 185 17 (-1)) 185 14 0) 185 19 0) J4 with | none => none | some (_, I5, J5) => some (1, I5, J5))) else some (0, I, J)
set_option maxRecDepth 100000 in
theorem f226_185_pq {sc : List Int32} {B : xM} {N : Nat} {I : tI} {J : tJ} {a0 : Int32} {a1 : Int32} (hB : kB pT B) : ∀ {X : Option (Int32 × tI × tJ)}, f226_185 N I J a0 a1 = X → pq sc B N (xt_226, 4, 3) 0 [(0, .ref 185), (1, .int a0), (2, .int a1)] [] I J (fun v I1 J1 => ∃ a, v = some (.int a) ∧ X = some (a, I1, J1)) := by
  intro X hq
  unfold f226_185 at hq
  have hle : N ≤ N := Nat.le_refl N
  refine pq_s hB 1 (pc' := 1) (L' := [(0, .ref 185), (1, .int a0), (2, .int a1)]) (st' := [.int a0]) (I' := I) (J' := J) (by with_unfolding_all rfl) ?_
  refine pq_ifn hB rfl (fun h1 => ?_) (fun h1 => ?_)
  · rw [h1, cond_true] at hq
    refine pq_s hB 1 (pc' := 18) (L' := [(0, .ref 185), (1, .int a0), (2, .int a1)]) (st' := [.int 0]) (I' := I) (J' := J) (by with_unfolding_all rfl) ?_
    subst hq
    exact pq_2i (x := 0) rfl ⟨_, rfl, rfl⟩
  · rw [h1, cond_false] at hq
    refine pq_s hB 3 (pc' := 9) (L' := [(0, .ref 185), (1, .int a0), (2, .int a1)]) (st' := [.int (I 185 10), .int a0]) (I' := I) (J' := J) (by with_unfolding_all rfl) ?_
    refine pq_icn hB rfl (fun h2 => ?_) (fun h2 => ?_)
    · rw [h2, cond_true] at hq
      refine pq_s hB 1 (pc' := 18) (L' := [(0, .ref 185), (1, .int a0), (2, .int a1)]) (st' := [.int 0]) (I' := I) (J' := J) (by with_unfolding_all rfl) ?_
      subst hq
      exact pq_2i (x := 0) rfl ⟨_, rfl, rfl⟩
    · rw [h2, cond_false] at hq
      refine pq_s hB 2 (pc' := 14) (L' := [(0, .ref 185), (1, .int a0), (2, .int a1)]) (st' := [.int a1, .int a0]) (I' := I) (J' := J) (by with_unfolding_all rfl) ?_
      refine pq_icn hB rfl (fun h3 => ?_) (fun h3 => ?_)
      · rw [h3, cond_true] at hq
        refine pq_s hB 5 (pc' := 26) (L' := [(3, .int 0), (0, .ref 185), (1, .int a0), (2, .int a1)]) (st' := []) (I' := (tup I 185 11 a0)) (J' := J) (by with_unfolding_all rfl) ?_
        refine pq_perm (L := [(0, .ref 185), (1, .int a0), (3, .int 0)]) (leqn_of ⟨rfl, rfl, rfl, trivial⟩ ⟨rfl, rfl, rfl, trivial⟩ ⟨rfl, rfl, rfl, rfl, trivial⟩) ?_
        refine f226_185_l26_pq hB N (Nat.le_refl N) N N hle (Nat.le_refl N) rfl ?_
        intro y4_1 y4_3 I4 J4 hc4
        rw [hc4] at hq
        dsimp only at hq
        refine pq_s hB 16 (pc' := 75) (L' := [(0, .ref 185), (1, .int y4_1), (3, .int y4_3)]) (st' := [.ref 185]) (I' := (tup (tup (tup (tup (tup I4 185 10 0) 185 18 0) 185 17 (-1)) 185 14 0) 185 19 0)) (J' := J4) (by with_unfolding_all rfl) ?_
        refine pq_1 rfl rfl rfl rfl (pq_le hle (f222_185_pq hB rfl)) ?_
        rintro _ I5 J5 ⟨rfl, hc5⟩
        rw [hc5] at hq
        dsimp only at hq
        refine pq_s hB 1 (pc' := 79) (L' := [(0, .ref 185), (1, .int y4_1), (3, .int y4_3)]) (st' := [.int 1]) (I' := I5) (J' := J5) (by with_unfolding_all rfl) ?_
        subst hq
        exact pq_2i (x := 1) rfl ⟨_, rfl, rfl⟩
      · rw [h3, cond_false] at hq
        refine pq_s hB 1 (pc' := 18) (L' := [(0, .ref 185), (1, .int a0), (2, .int a1)]) (st' := [.int 0]) (I' := I) (J' := J) (by with_unfolding_all rfl) ?_
        subst hq
        exact pq_2i (x := 0) rfl ⟨_, rfl, rfl⟩
-- LPModel.plain, the loop at 2, to [24]
def f200_185_l2 (N : Nat) : Nat → tI → tJ → Int32 → Int32 → Option (Int32 × Int32 × tI × tJ)
  | 0, _, _, _, _ => none
  | k + 1, I, J, x1, x2 =>
    bif xcmp .ge x2 620 then some (x1, x2, I, J) else f200_185_l2 N k (tup I 186 (((x1 + x2)).toNatClampNeg) 0) J x1 (x2 + 1)
set_option maxRecDepth 100000 in
theorem f200_185_l2_pq {sc : List Int32} {B : xM} {N : Nat} {P : Option Value → tI → tJ → Prop} (hB : kB pT B) : ∀ (k : Nat), k ≤ N → ∀ (b m : Nat), b ≤ k → b ≤ m → ∀ {I : tI} {J : tJ} {x1 : Int32} {x2 : Int32} {Y : Option (Int32 × Int32 × tI × tJ)}, f200_185_l2 N k I J x1 x2 = Y → (∀ {y1 : Int32} {y2 : Int32} {I1 : tI} {J1 : tJ}, Y = some (y1, y2, I1, J1) → pq sc B m (xt_200, 3, 0) 24 [(0, .ref 185), (1, .int y1), (2, .int y2)] [] I1 J1 P) → pq sc B b (xt_200, 3, 0) 2 [(0, .ref 185), (1, .int x1), (2, .int x2)] [] I J P
  | 0, _, b, _, hb, _, _, _, _, _, _, _, _ => by
    have e : b = 0 := by omega
    subst e
    exact pq_zero
  | _ + 1, _, 0, _, _, _, _, _, _, _, _, _, _ => pq_zero
  | k + 1, hk, b + 1, m, hb, hm, I, J, x1, x2, Y, hq, hx0 => by
    unfold f200_185_l2 at hq
    have hle : b ≤ N := by omega
    refine pq_s1 hB 1 (pc' := 6) (L' := [(0, .ref 185), (1, .int x1), (2, .int x2)]) (st' := [.int 620, .int x2]) (I' := I) (J' := J) (by with_unfolding_all rfl) ?_
    refine pq_icn hB rfl (fun h1 => ?_) (fun h1 => ?_)
    · rw [h1, cond_true] at hq
      exact pq_le (by omega) (hx0 hq.symm)
    · rw [h1, cond_false] at hq
      refine pq_s hB 9 (pc' := 2) (L' := [(2, .int (x2 + 1)), (0, .ref 185), (1, .int x1)]) (st' := []) (I' := (tup I 186 (((x1 + x2)).toNatClampNeg) 0)) (J' := J) (by with_unfolding_all rfl) ?_
      refine pq_perm (L := [(0, .ref 185), (1, .int x1), (2, .int (x2 + 1))]) (leqn_of ⟨rfl, rfl, rfl, trivial⟩ ⟨rfl, rfl, rfl, trivial⟩ ⟨rfl, rfl, rfl, trivial⟩) ?_
      exact f200_185_l2_pq hB k (by omega) b m (by omega) (by omega) hq hx0
-- LPModel.plain, the loop at 26, to [51]
def f200_185_l26 (N : Nat) : Nat → tI → tJ → Int32 → Int32 → Option (Int32 × Int32 × tI × tJ)
  | 0, _, _, _, _ => none
  | k + 1, I, J, x1, x2 =>
    bif xcmp .ge x2 120 then some (x1, x2, I, J) else f200_185_l26 N k (tup I 186 ((((x1 + 132) + x2)).toNatClampNeg) (-1)) J x1 (x2 + 1)
set_option maxRecDepth 100000 in
theorem f200_185_l26_pq {sc : List Int32} {B : xM} {N : Nat} {P : Option Value → tI → tJ → Prop} (hB : kB pT B) : ∀ (k : Nat), k ≤ N → ∀ (b m : Nat), b ≤ k → b ≤ m → ∀ {I : tI} {J : tJ} {x1 : Int32} {x2 : Int32} {Y : Option (Int32 × Int32 × tI × tJ)}, f200_185_l26 N k I J x1 x2 = Y → (∀ {y1 : Int32} {y2 : Int32} {I1 : tI} {J1 : tJ}, Y = some (y1, y2, I1, J1) → pq sc B m (xt_200, 3, 0) 51 [(0, .ref 185), (1, .int y1), (2, .int y2)] [] I1 J1 P) → pq sc B b (xt_200, 3, 0) 26 [(0, .ref 185), (1, .int x1), (2, .int x2)] [] I J P
  | 0, _, b, _, hb, _, _, _, _, _, _, _, _ => by
    have e : b = 0 := by omega
    subst e
    exact pq_zero
  | _ + 1, _, 0, _, _, _, _, _, _, _, _, _, _ => pq_zero
  | k + 1, hk, b + 1, m, hb, hm, I, J, x1, x2, Y, hq, hx0 => by
    unfold f200_185_l26 at hq
    have hle : b ≤ N := by omega
    refine pq_s1 hB 1 (pc' := 29) (L' := [(0, .ref 185), (1, .int x1), (2, .int x2)]) (st' := [.int 120, .int x2]) (I' := I) (J' := J) (by with_unfolding_all rfl) ?_
    refine pq_icn hB rfl (fun h2 => ?_) (fun h2 => ?_)
    · rw [h2, cond_true] at hq
      exact pq_le (by omega) (hx0 hq.symm)
    · rw [h2, cond_false] at hq
      refine pq_s hB 11 (pc' := 26) (L' := [(2, .int (x2 + 1)), (0, .ref 185), (1, .int x1)]) (st' := []) (I' := (tup I 186 ((((x1 + 132) + x2)).toNatClampNeg) (-1))) (J' := J) (by with_unfolding_all rfl) ?_
      refine pq_perm (L := [(0, .ref 185), (1, .int x1), (2, .int (x2 + 1))]) (leqn_of ⟨rfl, rfl, rfl, trivial⟩ ⟨rfl, rfl, rfl, trivial⟩ ⟨rfl, rfl, rfl, trivial⟩) ?_
      exact f200_185_l26_pq hB k (by omega) b m (by omega) (by omega) hq hx0
-- LPModel.plain
def f200_185 (N : Nat) (I : tI) (J : tJ) (a0 : Int32) : Option (Unit × tI × tJ) :=
  (match f200_185_l2 N N I J a0 0 with | none => none | some (y1_1, y1_2, I1, J1) => (match f200_185_l26 N N I1 J1 y1_1 0 with | none => none | some (y2_1, y2_2, I2, J2) => some ((), (tup (tup (tup I2 186 (((y2_1 + 6)).toNatClampNeg) 5) 186 (((y2_1 + 7)).toNatClampNeg) 1) 186 (((y2_1 + 8)).toNatClampNeg) (-1)), J2)))
set_option maxRecDepth 100000 in
theorem f200_185_pq {sc : List Int32} {B : xM} {N : Nat} {I : tI} {J : tJ} {a0 : Int32} (hB : kB pT B) : ∀ {X : Option (Unit × tI × tJ)}, f200_185 N I J a0 = X → pq sc B N (xt_200, 3, 0) 0 [(0, .ref 185), (1, .int a0)] [] I J (fun v I1 J1 => v = none ∧ X = some ((), I1, J1)) := by
  intro X hq
  unfold f200_185 at hq
  have hle : N ≤ N := Nat.le_refl N
  refine pq_s hB 2 (pc' := 2) (L' := [(2, .int 0), (0, .ref 185), (1, .int a0)]) (st' := []) (I' := I) (J' := J) (by with_unfolding_all rfl) ?_
  refine pq_perm (L := [(0, .ref 185), (1, .int a0), (2, .int 0)]) (leqn_of ⟨rfl, rfl, rfl, trivial⟩ ⟨rfl, rfl, rfl, trivial⟩ ⟨rfl, rfl, rfl, trivial⟩) ?_
  refine f200_185_l2_pq hB N (Nat.le_refl N) N N hle (Nat.le_refl N) rfl ?_
  intro y1_1 y1_2 I1 J1 hc1
  rw [hc1] at hq
  dsimp only at hq
  refine pq_s hB 2 (pc' := 26) (L' := [(2, .int 0), (0, .ref 185), (1, .int y1_1)]) (st' := []) (I' := I1) (J' := J1) (by with_unfolding_all rfl) ?_
  refine pq_perm (L := [(0, .ref 185), (1, .int y1_1), (2, .int 0)]) (leqn_of ⟨rfl, rfl, rfl, trivial⟩ ⟨rfl, rfl, rfl, trivial⟩ ⟨rfl, rfl, rfl, trivial⟩) ?_
  refine f200_185_l26_pq hB N (Nat.le_refl N) N N hle (Nat.le_refl N) rfl ?_
  intro y2_1 y2_2 I2 J2 hc2
  rw [hc2] at hq
  dsimp only at hq
  refine pq_s hB 21 (pc' := 81) (L' := [(0, .ref 185), (1, .int y2_1), (2, .int y2_2)]) (st' := []) (I' := (tup (tup (tup I2 186 (((y2_1 + 6)).toNatClampNeg) 5) 186 (((y2_1 + 7)).toNatClampNeg) 1) 186 (((y2_1 + 8)).toNatClampNeg) (-1))) (J' := J2) (by with_unfolding_all rfl) ?_
  subst hq
  exact pq_2 (v := none) rfl rfl (by with_unfolding_all rfl) ⟨rfl, rfl⟩
-- LPModel.inWords, the loop at 25, to [42]
def f224_185_1002_l25 (N : Nat) : Nat → tI → tJ → Int32 → Int32 → Int32 → Option (Int32 × Int32 × Int32 × tI × tJ)
  | 0, _, _, _, _, _ => none
  | k + 1, I, J, x2, x3, x4 =>
    bif xcmp .eq ((xsB.getD 1 []).getD (x4).toNatClampNeg 0) 32 then some (x2, x3, x4, I, J) else f224_185_1002_l25 N k I J x2 x3 (x4 + 1)
set_option maxRecDepth 100000 in
theorem f224_185_1002_l25_pq {sc : List Int32} {B : xM} {N : Nat} {P : Option Value → tI → tJ → Prop} (hB : kB pT B) : ∀ (k : Nat), k ≤ N → ∀ (b m : Nat), b ≤ k → b ≤ m → ∀ {I : tI} {J : tJ} {x2 : Int32} {x3 : Int32} {x4 : Int32} {Y : Option (Int32 × Int32 × Int32 × tI × tJ)}, f224_185_1002_l25 N k I J x2 x3 x4 = Y → (∀ {y2 : Int32} {y3 : Int32} {y4 : Int32} {I1 : tI} {J1 : tJ}, Y = some (y2, y3, y4, I1, J1) → pq sc B m (xt_224, 7, 1) 42 [(0, .ref 185), (1, .retAddr 2), (2, .int y2), (3, .int y3), (4, .int y4)] [] I1 J1 P) → pq sc B b (xt_224, 7, 1) 25 [(0, .ref 185), (1, .retAddr 2), (2, .int x2), (3, .int x3), (4, .int x4)] [] I J P
  | 0, _, b, _, hb, _, _, _, _, _, _, _, _, _ => by
    have e : b = 0 := by omega
    subst e
    exact pq_zero
  | _ + 1, _, 0, _, _, _, _, _, _, _, _, _, _, _ => pq_zero
  | k + 1, hk, b + 1, m, hb, hm, I, J, x2, x3, x4, Y, hq, hx0 => by
    unfold f224_185_1002_l25 at hq
    have hle : b ≤ N := by omega
    refine pq_s1 hB 3 (pc' := 33) (L' := [(0, .ref 185), (1, .retAddr 2), (2, .int x2), (3, .int x3), (4, .int x4)]) (st' := [.int 32, .int ((xsB.getD 1 []).getD (x4).toNatClampNeg 0)]) (I' := I) (J' := J) (by with_unfolding_all rfl) ?_
    refine pq_icn hB rfl (fun h3 => ?_) (fun h3 => ?_)
    · rw [h3, cond_true] at hq
      exact pq_le (by omega) (hx0 hq.symm)
    · rw [h3, cond_false] at hq
      refine pq_s hB 2 (pc' := 25) (L' := [(4, .int (x4 + 1)), (0, .ref 185), (1, .retAddr 2), (2, .int x2), (3, .int x3)]) (st' := []) (I' := I) (J' := J) (by with_unfolding_all rfl) ?_
      refine pq_perm (L := [(0, .ref 185), (1, .retAddr 2), (2, .int x2), (3, .int x3), (4, .int (x4 + 1))]) (leqn_of ⟨rfl, rfl, rfl, rfl, rfl, trivial⟩ ⟨rfl, rfl, rfl, rfl, rfl, trivial⟩ ⟨rfl, rfl, rfl, rfl, rfl, trivial⟩) ?_
      exact f224_185_1002_l25_pq hB k (by omega) b m (by omega) (by omega) hq hx0
-- LPModel.inWords, the loop at 68, to [115]
def f224_185_1002_l68 (N : Nat) : Nat → tI → tJ → Int32 → Int32 → Int32 → Int32 → Int32 → Option (Int32 × Int32 × Int32 × Int32 × Int32 × tI × tJ)
  | 0, _, _, _, _, _, _, _ => none
  | k + 1, I, J, x2, x3, x4, x5, x6 =>
    bif xcmp .ge x6 x4 then some (x2, x3, x4, x5, x6, I, J) else bif xcmp .eq x5 0 then some (x2, x3, x4, x5, x6, I, J) else (match f219_185 I J (((I 185 13) + x6) - x3) with | (v7, I7, J7) => bif xcmp .ne ((xsB.getD 1 []).getD (x6).toNatClampNeg 0) v7 then f224_185_1002_l68 N k I7 J7 x2 x3 x4 0 (x6 + 1) else f224_185_1002_l68 N k I7 J7 x2 x3 x4 1 (x6 + 1))
set_option maxRecDepth 100000 in
theorem f224_185_1002_l68_pq {sc : List Int32} {B : xM} {N : Nat} {P : Option Value → tI → tJ → Prop} (hB : kB pT B) : ∀ (k : Nat), k ≤ N → ∀ (b m : Nat), b ≤ k → b ≤ m → ∀ {I : tI} {J : tJ} {x2 : Int32} {x3 : Int32} {x4 : Int32} {x5 : Int32} {x6 : Int32} {Y : Option (Int32 × Int32 × Int32 × Int32 × Int32 × tI × tJ)}, f224_185_1002_l68 N k I J x2 x3 x4 x5 x6 = Y → (∀ {y2 : Int32} {y3 : Int32} {y4 : Int32} {y5 : Int32} {y6 : Int32} {I1 : tI} {J1 : tJ}, Y = some (y2, y3, y4, y5, y6, I1, J1) → pq sc B m (xt_224, 7, 1) 115 [(0, .ref 185), (1, .retAddr 2), (2, .int y2), (3, .int y3), (4, .int y4), (5, .int y5), (6, .int y6)] [] I1 J1 P) → pq sc B b (xt_224, 7, 1) 68 [(0, .ref 185), (1, .retAddr 2), (2, .int x2), (3, .int x3), (4, .int x4), (5, .int x5), (6, .int x6)] [] I J P
  | 0, _, b, _, hb, _, _, _, _, _, _, _, _, _, _, _ => by
    have e : b = 0 := by omega
    subst e
    exact pq_zero
  | _ + 1, _, 0, _, _, _, _, _, _, _, _, _, _, _, _, _ => pq_zero
  | k + 1, hk, b + 1, m, hb, hm, I, J, x2, x3, x4, x5, x6, Y, hq, hx0 => by
    unfold f224_185_1002_l68 at hq
    have hle : b ≤ N := by omega
    refine pq_s1 hB 1 (pc' := 72) (L' := [(0, .ref 185), (1, .retAddr 2), (2, .int x2), (3, .int x3), (4, .int x4), (5, .int x5), (6, .int x6)]) (st' := [.int x4, .int x6]) (I' := I) (J' := J) (by with_unfolding_all rfl) ?_
    refine pq_icn hB rfl (fun h5 => ?_) (fun h5 => ?_)
    · rw [h5, cond_true] at hq
      exact pq_le (by omega) (hx0 hq.symm)
    · rw [h5, cond_false] at hq
      refine pq_s hB 1 (pc' := 77) (L' := [(0, .ref 185), (1, .retAddr 2), (2, .int x2), (3, .int x3), (4, .int x4), (5, .int x5), (6, .int x6)]) (st' := [.int x5]) (I' := I) (J' := J) (by with_unfolding_all rfl) ?_
      refine pq_ifn hB rfl (fun h6 => ?_) (fun h6 => ?_)
      · rw [h6, cond_true] at hq
        exact pq_le (by omega) (hx0 hq.symm)
      · rw [h6, cond_false] at hq
        refine pq_s hB 10 (pc' := 96) (L' := [(0, .ref 185), (1, .retAddr 2), (2, .int x2), (3, .int x3), (4, .int x4), (5, .int x5), (6, .int x6)]) (st' := [.int (((I 185 13) + x6) - x3), .ref 185, .int ((xsB.getD 1 []).getD (x6).toNatClampNeg 0)]) (I' := I) (J' := J) (by with_unfolding_all rfl) ?_
        generalize hc7 : f219_185 I J (((I 185 13) + x6) - x3) = q7 at hq
        obtain ⟨v7, _, _⟩ := q7
        dsimp only at hq
        refine pq_1 rfl rfl rfl rfl (f219_185_pq hB hc7) ?_
        rintro _ I7 J7 ⟨rfl, rfl, rfl⟩
        refine pq_icn hB rfl (fun h8 => ?_) (fun h8 => ?_)
        · rw [h8, cond_true] at hq
          refine pq_s hB 4 (pc' := 68) (L' := [(6, .int (x6 + 1)), (5, .int 0), (0, .ref 185), (1, .retAddr 2), (2, .int x2), (3, .int x3), (4, .int x4)]) (st' := []) (I' := I7) (J' := J7) (by with_unfolding_all rfl) ?_
          refine pq_perm (L := [(0, .ref 185), (1, .retAddr 2), (2, .int x2), (3, .int x3), (4, .int x4), (5, .int 0), (6, .int (x6 + 1))]) (leqn_of ⟨rfl, rfl, rfl, rfl, rfl, rfl, rfl, trivial⟩ ⟨rfl, rfl, rfl, rfl, rfl, rfl, rfl, trivial⟩ ⟨rfl, rfl, rfl, rfl, rfl, rfl, rfl, trivial⟩) ?_
          exact f224_185_1002_l68_pq hB k (by omega) b m (by omega) (by omega) hq hx0
        · rw [h8, cond_false] at hq
          refine pq_s hB 5 (pc' := 68) (L' := [(6, .int (x6 + 1)), (5, .int 1), (0, .ref 185), (1, .retAddr 2), (2, .int x2), (3, .int x3), (4, .int x4)]) (st' := []) (I' := I7) (J' := J7) (by with_unfolding_all rfl) ?_
          refine pq_perm (L := [(0, .ref 185), (1, .retAddr 2), (2, .int x2), (3, .int x3), (4, .int x4), (5, .int 1), (6, .int (x6 + 1))]) (leqn_of ⟨rfl, rfl, rfl, rfl, rfl, rfl, rfl, trivial⟩ ⟨rfl, rfl, rfl, rfl, rfl, rfl, rfl, trivial⟩ ⟨rfl, rfl, rfl, rfl, rfl, rfl, rfl, trivial⟩) ?_
          exact f224_185_1002_l68_pq hB k (by omega) b m (by omega) (by omega) hq hx0
-- LPModel.inWords, the loop at 14, to [133, 120]
def f224_185_1002_l14 (N : Nat) : Nat → tI → tJ → Int32 → Int32 → Option (Nat × Int32 × Int32 × tI × tJ)
  | 0, _, _, _, _ => none
  | k + 1, I, J, x2, x3 =>
    bif xcmp .ge x3 163 then some (0, x2, x3, I, J) else (match f224_185_1002_l25 N N I J x2 x3 x3 with | none => none | some (y3_2, y3_3, y3_4, I3, J3) => bif xcmp .ne (y3_4 - y3_3) ((I3 185 14) - (I3 185 13)) then (match f224_185_1002_l68 N N I3 J3 y3_2 y3_3 y3_4 0 y3_3 with | none => none | some (y5_2, y5_3, y5_4, y5_5, y5_6, I5, J5) => bif xcmp .eq y5_5 0 then f224_185_1002_l14 N k I5 J5 (y5_2 + 1) (y5_4 + 1) else some (1, y5_2, y5_3, I5, J5)) else (match f224_185_1002_l68 N N I3 J3 y3_2 y3_3 y3_4 1 y3_3 with | none => none | some (y7_2, y7_3, y7_4, y7_5, y7_6, I7, J7) => bif xcmp .eq y7_5 0 then f224_185_1002_l14 N k I7 J7 (y7_2 + 1) (y7_4 + 1) else some (1, y7_2, y7_3, I7, J7)))
set_option maxRecDepth 100000 in
theorem f224_185_1002_l14_pq {sc : List Int32} {B : xM} {N : Nat} {P : Option Value → tI → tJ → Prop} (hB : kB pT B) : ∀ (k : Nat), k ≤ N → ∀ (b m : Nat), b ≤ k → b ≤ m → ∀ {I : tI} {J : tJ} {x2 : Int32} {x3 : Int32} {Y : Option (Nat × Int32 × Int32 × tI × tJ)}, f224_185_1002_l14 N k I J x2 x3 = Y → (∀ {y2 : Int32} {y3 : Int32} {I1 : tI} {J1 : tJ}, Y = some (0, y2, y3, I1, J1) → pq sc B m (xt_224, 7, 1) 133 [(0, .ref 185), (1, .retAddr 2), (2, .int y2), (3, .int y3)] [] I1 J1 P) → (∀ {y2 : Int32} {y3 : Int32} {I1 : tI} {J1 : tJ}, Y = some (1, y2, y3, I1, J1) → pq sc B m (xt_224, 7, 1) 120 [(0, .ref 185), (1, .retAddr 2), (2, .int y2), (3, .int y3)] [] I1 J1 P) → pq sc B b (xt_224, 7, 1) 14 [(0, .ref 185), (1, .retAddr 2), (2, .int x2), (3, .int x3)] [] I J P
  | 0, _, b, _, hb, _, _, _, _, _, _, _, _, _ => by
    have e : b = 0 := by omega
    subst e
    exact pq_zero
  | _ + 1, _, 0, _, _, _, _, _, _, _, _, _, _, _ => pq_zero
  | k + 1, hk, b + 1, m, hb, hm, I, J, x2, x3, Y, hq, hx0, hx1 => by
    unfold f224_185_1002_l14 at hq
    have hle : b ≤ N := by omega
    refine pq_s1 hB 2 (pc' := 19) (L' := [(0, .ref 185), (1, .retAddr 2), (2, .int x2), (3, .int x3)]) (st' := [.int 163, .int x3]) (I' := I) (J' := J) (by with_unfolding_all rfl) ?_
    refine pq_icn hB rfl (fun h2 => ?_) (fun h2 => ?_)
    · rw [h2, cond_true] at hq
      exact pq_le (by omega) (hx0 hq.symm)
    · rw [h2, cond_false] at hq
      refine pq_s hB 2 (pc' := 25) (L' := [(4, .int x3), (0, .ref 185), (1, .retAddr 2), (2, .int x2), (3, .int x3)]) (st' := []) (I' := I) (J' := J) (by with_unfolding_all rfl) ?_
      refine pq_perm (L := [(0, .ref 185), (1, .retAddr 2), (2, .int x2), (3, .int x3), (4, .int x3)]) (leqn_of ⟨rfl, rfl, rfl, rfl, rfl, trivial⟩ ⟨rfl, rfl, rfl, rfl, rfl, trivial⟩ ⟨rfl, rfl, rfl, rfl, rfl, trivial⟩) ?_
      refine f224_185_1002_l25_pq hB N (Nat.le_refl N) b b hle (Nat.le_refl b) rfl ?_
      intro y3_2 y3_3 y3_4 I3 J3 hc3
      rw [hc3] at hq
      dsimp only at hq
      refine pq_s hB 8 (pc' := 55) (L' := [(0, .ref 185), (1, .retAddr 2), (2, .int y3_2), (3, .int y3_3), (4, .int y3_4)]) (st' := [.int ((I3 185 14) - (I3 185 13)), .int (y3_4 - y3_3)]) (I' := I3) (J' := J3) (by with_unfolding_all rfl) ?_
      refine pq_icn hB rfl (fun h4 => ?_) (fun h4 => ?_)
      · rw [h4, cond_true] at hq
        refine pq_s hB 4 (pc' := 68) (L' := [(6, .int y3_3), (5, .int 0), (0, .ref 185), (1, .retAddr 2), (2, .int y3_2), (3, .int y3_3), (4, .int y3_4)]) (st' := []) (I' := I3) (J' := J3) (by with_unfolding_all rfl) ?_
        refine pq_perm (L := [(0, .ref 185), (1, .retAddr 2), (2, .int y3_2), (3, .int y3_3), (4, .int y3_4), (5, .int 0), (6, .int y3_3)]) (leqn_of ⟨rfl, rfl, rfl, rfl, rfl, rfl, rfl, trivial⟩ ⟨rfl, rfl, rfl, rfl, rfl, rfl, rfl, trivial⟩ ⟨rfl, rfl, rfl, rfl, rfl, rfl, rfl, trivial⟩) ?_
        refine f224_185_1002_l68_pq hB N (Nat.le_refl N) b b hle (Nat.le_refl b) rfl ?_
        intro y5_2 y5_3 y5_4 y5_5 y5_6 I5 J5 hc5
        rw [hc5] at hq
        dsimp only at hq
        refine pq_s hB 1 (pc' := 117) (L' := [(0, .ref 185), (1, .retAddr 2), (2, .int y5_2), (3, .int y5_3), (4, .int y5_4), (5, .int y5_5), (6, .int y5_6)]) (st' := [.int y5_5]) (I' := I5) (J' := J5) (by with_unfolding_all rfl) ?_
        refine pq_ifn hB rfl (fun h6 => ?_) (fun h6 => ?_)
        · rw [h6, cond_true] at hq
          refine pq_s hB 6 (pc' := 14) (L' := [(3, .int (y5_4 + 1)), (2, .int (y5_2 + 1)), (0, .ref 185), (1, .retAddr 2), (4, .int y5_4), (5, .int y5_5), (6, .int y5_6)]) (st' := []) (I' := I5) (J' := J5) (by with_unfolding_all rfl) ?_
          refine pq_perm (L := [(0, .ref 185), (1, .retAddr 2), (2, .int (y5_2 + 1)), (3, .int (y5_4 + 1))]) (leqn_of ⟨rfl, rfl, rfl, rfl, trivial⟩ ⟨rfl, rfl, rfl, rfl, trivial⟩ ⟨rfl, rfl, rfl, rfl, rfl, rfl, rfl, trivial⟩) ?_
          exact f224_185_1002_l14_pq hB k (by omega) b m (by omega) (by omega) hq hx0 hx1
        · rw [h6, cond_false] at hq
          refine pq_perm (L := [(0, .ref 185), (1, .retAddr 2), (2, .int y5_2), (3, .int y5_3)]) (leqn_of ⟨rfl, rfl, rfl, rfl, trivial⟩ ⟨rfl, rfl, rfl, rfl, trivial⟩ ⟨rfl, rfl, rfl, rfl, rfl, rfl, rfl, trivial⟩) ?_
          exact pq_le (by omega) (hx1 hq.symm)
      · rw [h4, cond_false] at hq
        refine pq_s hB 5 (pc' := 68) (L' := [(6, .int y3_3), (5, .int 1), (0, .ref 185), (1, .retAddr 2), (2, .int y3_2), (3, .int y3_3), (4, .int y3_4)]) (st' := []) (I' := I3) (J' := J3) (by with_unfolding_all rfl) ?_
        refine pq_perm (L := [(0, .ref 185), (1, .retAddr 2), (2, .int y3_2), (3, .int y3_3), (4, .int y3_4), (5, .int 1), (6, .int y3_3)]) (leqn_of ⟨rfl, rfl, rfl, rfl, rfl, rfl, rfl, trivial⟩ ⟨rfl, rfl, rfl, rfl, rfl, rfl, rfl, trivial⟩ ⟨rfl, rfl, rfl, rfl, rfl, rfl, rfl, trivial⟩) ?_
        refine f224_185_1002_l68_pq hB N (Nat.le_refl N) b b hle (Nat.le_refl b) rfl ?_
        intro y7_2 y7_3 y7_4 y7_5 y7_6 I7 J7 hc7
        rw [hc7] at hq
        dsimp only at hq
        refine pq_s hB 1 (pc' := 117) (L' := [(0, .ref 185), (1, .retAddr 2), (2, .int y7_2), (3, .int y7_3), (4, .int y7_4), (5, .int y7_5), (6, .int y7_6)]) (st' := [.int y7_5]) (I' := I7) (J' := J7) (by with_unfolding_all rfl) ?_
        refine pq_ifn hB rfl (fun h8 => ?_) (fun h8 => ?_)
        · rw [h8, cond_true] at hq
          refine pq_s hB 6 (pc' := 14) (L' := [(3, .int (y7_4 + 1)), (2, .int (y7_2 + 1)), (0, .ref 185), (1, .retAddr 2), (4, .int y7_4), (5, .int y7_5), (6, .int y7_6)]) (st' := []) (I' := I7) (J' := J7) (by with_unfolding_all rfl) ?_
          refine pq_perm (L := [(0, .ref 185), (1, .retAddr 2), (2, .int (y7_2 + 1)), (3, .int (y7_4 + 1))]) (leqn_of ⟨rfl, rfl, rfl, rfl, trivial⟩ ⟨rfl, rfl, rfl, rfl, trivial⟩ ⟨rfl, rfl, rfl, rfl, rfl, rfl, rfl, trivial⟩) ?_
          exact f224_185_1002_l14_pq hB k (by omega) b m (by omega) (by omega) hq hx0 hx1
        · rw [h8, cond_false] at hq
          refine pq_perm (L := [(0, .ref 185), (1, .retAddr 2), (2, .int y7_2), (3, .int y7_3)]) (leqn_of ⟨rfl, rfl, rfl, rfl, trivial⟩ ⟨rfl, rfl, rfl, rfl, trivial⟩ ⟨rfl, rfl, rfl, rfl, rfl, rfl, rfl, trivial⟩) ?_
          exact pq_le (by omega) (hx1 hq.symm)
-- LPModel.inWords
def f224_185_1002 (N : Nat) (I : tI) (J : tJ) : Option (Int32 × tI × tJ) :=
  bif xcmp .eq (I 185 12) 2 then (match f224_185_1002_l14 N N I J 0 1 with | none => none | some (k2, y2_2, y2_3, I2, J2) => bif Nat.beq k2 0 then (some ((-1), I2, J2)) else some (y2_2, I2, J2)) else some ((-1), I, J)
set_option maxRecDepth 100000 in
theorem f224_185_1002_pq {sc : List Int32} {B : xM} {N : Nat} {I : tI} {J : tJ} (hB : kB pT B) : ∀ {X : Option (Int32 × tI × tJ)}, f224_185_1002 N I J = X → pq sc B N (xt_224, 7, 1) 0 [(0, .ref 185), (1, .retAddr 2)] [] I J (fun v I1 J1 => ∃ a, v = some (.int a) ∧ X = some (a, I1, J1)) := by
  intro X hq
  unfold f224_185_1002 at hq
  have hle : N ≤ N := Nat.le_refl N
  refine pq_s hB 3 (pc' := 5) (L' := [(0, .ref 185), (1, .retAddr 2)]) (st' := [.int 2, .int (I 185 12)]) (I' := I) (J' := J) (by with_unfolding_all rfl) ?_
  refine pq_icn hB rfl (fun h1 => ?_) (fun h1 => ?_)
  · rw [h1, cond_true] at hq
    refine pq_s hB 4 (pc' := 14) (L' := [(3, .int 1), (2, .int 0), (0, .ref 185), (1, .retAddr 2)]) (st' := []) (I' := I) (J' := J) (by with_unfolding_all rfl) ?_
    refine pq_perm (L := [(0, .ref 185), (1, .retAddr 2), (2, .int 0), (3, .int 1)]) (leqn_of ⟨rfl, rfl, rfl, rfl, trivial⟩ ⟨rfl, rfl, rfl, rfl, trivial⟩ ⟨rfl, rfl, rfl, rfl, trivial⟩) ?_
    refine f224_185_1002_l14_pq hB N (Nat.le_refl N) N N hle (Nat.le_refl N) rfl ?_ ?_
    ·
      intro y2_2 y2_3 I2 J2 hc2
      rw [hc2] at hq
      dsimp only at hq
      rw [show Nat.beq 0 0 = true from rfl, cond_true] at hq
      refine pq_s hB 1 (pc' := 134) (L' := [(0, .ref 185), (1, .retAddr 2), (2, .int y2_2), (3, .int y2_3)]) (st' := [.int (-1)]) (I' := I2) (J' := J2) (by with_unfolding_all rfl) ?_
      subst hq
      exact pq_2i (x := (-1)) rfl ⟨_, rfl, rfl⟩
    ·
      intro y2_2 y2_3 I2 J2 hc2
      rw [hc2] at hq
      dsimp only at hq
      rw [show Nat.beq 1 0 = false from rfl, cond_false] at hq
      refine pq_s hB 1 (pc' := 121) (L' := [(0, .ref 185), (1, .retAddr 2), (2, .int y2_2), (3, .int y2_3)]) (st' := [.int y2_2]) (I' := I2) (J' := J2) (by with_unfolding_all rfl) ?_
      subst hq
      exact pq_2i (x := y2_2) rfl ⟨_, rfl, rfl⟩
  · rw [h1, cond_false] at hq
    refine pq_s hB 1 (pc' := 9) (L' := [(0, .ref 185), (1, .retAddr 2)]) (st' := [.int (-1)]) (I' := I) (J' := J) (by with_unfolding_all rfl) ?_
    subst hq
    exact pq_2i (x := (-1)) rfl ⟨_, rfl, rfl⟩
-- LPModel.fails
def f225_185 (I : tI) (J : tJ) (a0 : Int32) : Int32 × tI × tJ :=
  bif xcmp .ne (I 185 18) 0 then (0, I, J) else bif xcmp .ne (I 185 12) 1 then (0, (tup (tup I 185 18 a0) 185 17 (I 185 13)), J) else (0, (tup (tup I 185 18 1) 185 17 (I 185 13)), J)
set_option maxRecDepth 100000 in
theorem f225_185_pq {sc : List Int32} {B : xM} {n : Nat} {I : tI} {J : tJ} {a0 : Int32} (hB : kB pT B) : ∀ {q : Int32 × tI × tJ}, f225_185 I J a0 = q → pq sc B n (xt_225, 2, 3) 0 [(0, .ref 185), (1, .int a0)] [] I J (fun v I1 J1 => v = some (.int q.1) ∧ I1 = q.2.1 ∧ J1 = q.2.2) := by
  intro q hq
  unfold f225_185 at hq
  refine pq_s hB 2 (pc' := 4) (L' := [(0, .ref 185), (1, .int a0)]) (st' := [.int (I 185 18)]) (I' := I) (J' := J) (by with_unfolding_all rfl) ?_
  refine pq_ifn hB rfl (fun h1 => ?_) (fun h1 => ?_)
  · rw [h1, cond_true] at hq
    refine pq_s hB 1 (pc' := 33) (L' := [(0, .ref 185), (1, .int a0)]) (st' := [.int 0]) (I' := I) (J' := J) (by with_unfolding_all rfl) ?_
    subst hq
    exact pq_2i (x := 0) rfl ⟨rfl, rfl, rfl⟩
  · rw [h1, cond_false] at hq
    refine pq_s hB 4 (pc' := 13) (L' := [(0, .ref 185), (1, .int a0)]) (st' := [.int 1, .int (I 185 12), .ref 185]) (I' := I) (J' := J) (by with_unfolding_all rfl) ?_
    refine pq_icn hB rfl (fun h2 => ?_) (fun h2 => ?_)
    · rw [h2, cond_true] at hq
      refine pq_s hB 7 (pc' := 33) (L' := [(0, .ref 185), (1, .int a0)]) (st' := [.int 0]) (I' := (tup (tup I 185 18 a0) 185 17 (I 185 13))) (J' := J) (by with_unfolding_all rfl) ?_
      subst hq
      exact pq_2i (x := 0) rfl ⟨rfl, rfl, rfl⟩
    · rw [h2, cond_false] at hq
      refine pq_s hB 8 (pc' := 33) (L' := [(0, .ref 185), (1, .int a0)]) (st' := [.int 0]) (I' := (tup (tup I 185 18 1) 185 17 (I 185 13))) (J' := J) (by with_unfolding_all rfl) ?_
      subst hq
      exact pq_2i (x := 0) rfl ⟨rfl, rfl, rfl⟩
-- LPModel.number
def f229_185 (N : Nat) (I : tI) (J : tJ) (a0 : Int32) (a1 : Int32) (a2 : Int32) : Option (Int32 × tI × tJ) :=
  bif xcmp .eq (I 185 12) 3 then (bif xcmp .lt (I 185 15) a1 then (match f225_185 I J 4 with | (v3, I3, J3) => some (v3, I3, J3)) else bif xcmp .le (I 185 15) a2 then (match f222_185 N (tup I 186 ((a0).toNatClampNeg) (I 185 15)) J with | none => none | some (_, I5, J5) => some (1, I5, J5)) else (match f225_185 I J 4 with | (v6, I6, J6) => some (v6, I6, J6))) else (match f225_185 I J 2 with | (v7, I7, J7) => some (v7, I7, J7))
set_option maxRecDepth 100000 in
theorem f229_185_pq {sc : List Int32} {B : xM} {N : Nat} {I : tI} {J : tJ} {a0 : Int32} {a1 : Int32} {a2 : Int32} (hB : kB pT B) : ∀ {X : Option (Int32 × tI × tJ)}, f229_185 N I J a0 a1 a2 = X → pq sc B N (xt_229, 4, 3) 0 [(0, .ref 185), (1, .int a0), (2, .int a1), (3, .int a2)] [] I J (fun v I1 J1 => ∃ a, v = some (.int a) ∧ X = some (a, I1, J1)) := by
  intro X hq
  unfold f229_185 at hq
  have hle : N ≤ N := Nat.le_refl N
  refine pq_s hB 3 (pc' := 5) (L' := [(0, .ref 185), (1, .int a0), (2, .int a1), (3, .int a2)]) (st' := [.int 3, .int (I 185 12)]) (I' := I) (J' := J) (by with_unfolding_all rfl) ?_
  refine pq_icn hB rfl (fun h1 => ?_) (fun h1 => ?_)
  · rw [h1, cond_true] at hq
    refine pq_s hB 3 (pc' := 19) (L' := [(0, .ref 185), (1, .int a0), (2, .int a1), (3, .int a2)]) (st' := [.int a1, .int (I 185 15)]) (I' := I) (J' := J) (by with_unfolding_all rfl) ?_
    refine pq_icn hB rfl (fun h2 => ?_) (fun h2 => ?_)
    · rw [h2, cond_true] at hq
      refine pq_s hB 2 (pc' := 32) (L' := [(0, .ref 185), (1, .int a0), (2, .int a1), (3, .int a2)]) (st' := [.int 4, .ref 185]) (I' := I) (J' := J) (by with_unfolding_all rfl) ?_
      generalize hc3 : f225_185 I J 4 = q3 at hq
      obtain ⟨v3, _, _⟩ := q3
      dsimp only at hq
      refine pq_1 rfl rfl rfl rfl (f225_185_pq hB hc3) ?_
      rintro _ I3 J3 ⟨rfl, rfl, rfl⟩
      subst hq
      exact pq_2i (x := v3) rfl ⟨_, rfl, rfl⟩
    · rw [h2, cond_false] at hq
      refine pq_s hB 3 (pc' := 27) (L' := [(0, .ref 185), (1, .int a0), (2, .int a1), (3, .int a2)]) (st' := [.int a2, .int (I 185 15)]) (I' := I) (J' := J) (by with_unfolding_all rfl) ?_
      refine pq_icn hB rfl (fun h4 => ?_) (fun h4 => ?_)
      · rw [h4, cond_true] at hq
        refine pq_s hB 7 (pc' := 47) (L' := [(0, .ref 185), (1, .int a0), (2, .int a1), (3, .int a2)]) (st' := [.ref 185]) (I' := (tup I 186 ((a0).toNatClampNeg) (I 185 15))) (J' := J) (by with_unfolding_all rfl) ?_
        refine pq_1 rfl rfl rfl rfl (pq_le hle (f222_185_pq hB rfl)) ?_
        rintro _ I5 J5 ⟨rfl, hc5⟩
        rw [hc5] at hq
        dsimp only at hq
        refine pq_s hB 1 (pc' := 51) (L' := [(0, .ref 185), (1, .int a0), (2, .int a1), (3, .int a2)]) (st' := [.int 1]) (I' := I5) (J' := J5) (by with_unfolding_all rfl) ?_
        subst hq
        exact pq_2i (x := 1) rfl ⟨_, rfl, rfl⟩
      · rw [h4, cond_false] at hq
        refine pq_s hB 2 (pc' := 32) (L' := [(0, .ref 185), (1, .int a0), (2, .int a1), (3, .int a2)]) (st' := [.int 4, .ref 185]) (I' := I) (J' := J) (by with_unfolding_all rfl) ?_
        generalize hc6 : f225_185 I J 4 = q6 at hq
        obtain ⟨v6, _, _⟩ := q6
        dsimp only at hq
        refine pq_1 rfl rfl rfl rfl (f225_185_pq hB hc6) ?_
        rintro _ I6 J6 ⟨rfl, rfl, rfl⟩
        subst hq
        exact pq_2i (x := v6) rfl ⟨_, rfl, rfl⟩
  · rw [h1, cond_false] at hq
    refine pq_s hB 2 (pc' := 10) (L' := [(0, .ref 185), (1, .int a0), (2, .int a1), (3, .int a2)]) (st' := [.int 2, .ref 185]) (I' := I) (J' := J) (by with_unfolding_all rfl) ?_
    generalize hc7 : f225_185 I J 2 = q7 at hq
    obtain ⟨v7, _, _⟩ := q7
    dsimp only at hq
    refine pq_1 rfl rfl rfl rfl (f225_185_pq hB hc7) ?_
    rintro _ I7 J7 ⟨rfl, rfl, rfl⟩
    subst hq
    exact pq_2i (x := v7) rfl ⟨_, rfl, rfl⟩
-- LPModel.isSign
def f223_185 (I : tI) (J : tJ) (a0 : Int32) : Int32 × tI × tJ :=
  bif xcmp .ne (I 185 12) 4 then (0, I, J) else bif xcmp .ne (I 185 15) a0 then (0, I, J) else (1, I, J)
set_option maxRecDepth 100000 in
theorem f223_185_pq {sc : List Int32} {B : xM} {n : Nat} {I : tI} {J : tJ} {a0 : Int32} (hB : kB pT B) : ∀ {q : Int32 × tI × tJ}, f223_185 I J a0 = q → pq sc B n (xt_223, 2, 3) 0 [(0, .ref 185), (1, .int a0)] [] I J (fun v I1 J1 => v = some (.int q.1) ∧ I1 = q.2.1 ∧ J1 = q.2.2) := by
  intro q hq
  unfold f223_185 at hq
  refine pq_s hB 3 (pc' := 5) (L' := [(0, .ref 185), (1, .int a0)]) (st' := [.int 4, .int (I 185 12)]) (I' := I) (J' := J) (by with_unfolding_all rfl) ?_
  refine pq_icn hB rfl (fun h1 => ?_) (fun h1 => ?_)
  · rw [h1, cond_true] at hq
    refine pq_s hB 1 (pc' := 21) (L' := [(0, .ref 185), (1, .int a0)]) (st' := [.int 0]) (I' := I) (J' := J) (by with_unfolding_all rfl) ?_
    subst hq
    exact pq_2i (x := 0) rfl ⟨rfl, rfl, rfl⟩
  · rw [h1, cond_false] at hq
    refine pq_s hB 3 (pc' := 13) (L' := [(0, .ref 185), (1, .int a0)]) (st' := [.int a0, .int (I 185 15)]) (I' := I) (J' := J) (by with_unfolding_all rfl) ?_
    refine pq_icn hB rfl (fun h2 => ?_) (fun h2 => ?_)
    · rw [h2, cond_true] at hq
      refine pq_s hB 1 (pc' := 21) (L' := [(0, .ref 185), (1, .int a0)]) (st' := [.int 0]) (I' := I) (J' := J) (by with_unfolding_all rfl) ?_
      subst hq
      exact pq_2i (x := 0) rfl ⟨rfl, rfl, rfl⟩
    · rw [h2, cond_false] at hq
      refine pq_s hB 2 (pc' := 21) (L' := [(0, .ref 185), (1, .int a0)]) (st' := [.int 1]) (I' := I) (J' := J) (by with_unfolding_all rfl) ?_
      subst hq
      exact pq_2i (x := 1) rfl ⟨rfl, rfl, rfl⟩
-- LPModel.wantSign
def f227_185 (N : Nat) (I : tI) (J : tJ) (a0 : Int32) : Option (Int32 × tI × tJ) :=
  (match f223_185 I J a0 with | (v1, I1, J1) => bif xcmp .ne v1 0 then (match f222_185 N I1 J1 with | none => none | some (_, I3, J3) => some (1, I3, J3)) else (match f225_185 I1 J1 2 with | (v4, I4, J4) => some (v4, I4, J4)))
set_option maxRecDepth 100000 in
theorem f227_185_pq {sc : List Int32} {B : xM} {N : Nat} {I : tI} {J : tJ} {a0 : Int32} (hB : kB pT B) : ∀ {X : Option (Int32 × tI × tJ)}, f227_185 N I J a0 = X → pq sc B N (xt_227, 2, 3) 0 [(0, .ref 185), (1, .int a0)] [] I J (fun v I1 J1 => ∃ a, v = some (.int a) ∧ X = some (a, I1, J1)) := by
  intro X hq
  unfold f227_185 at hq
  have hle : N ≤ N := Nat.le_refl N
  refine pq_s hB 2 (pc' := 2) (L' := [(0, .ref 185), (1, .int a0)]) (st' := [.int a0, .ref 185]) (I' := I) (J' := J) (by with_unfolding_all rfl) ?_
  generalize hc1 : f223_185 I J a0 = q1 at hq
  obtain ⟨v1, _, _⟩ := q1
  dsimp only at hq
  refine pq_1 rfl rfl rfl rfl (f223_185_pq hB hc1) ?_
  rintro _ I1 J1 ⟨rfl, rfl, rfl⟩
  refine pq_ifn hB rfl (fun h2 => ?_) (fun h2 => ?_)
  · rw [h2, cond_true] at hq
    refine pq_s hB 1 (pc' := 15) (L' := [(0, .ref 185), (1, .int a0)]) (st' := [.ref 185]) (I' := I1) (J' := J1) (by with_unfolding_all rfl) ?_
    refine pq_1 rfl rfl rfl rfl (pq_le hle (f222_185_pq hB rfl)) ?_
    rintro _ I3 J3 ⟨rfl, hc3⟩
    rw [hc3] at hq
    dsimp only at hq
    refine pq_s hB 1 (pc' := 19) (L' := [(0, .ref 185), (1, .int a0)]) (st' := [.int 1]) (I' := I3) (J' := J3) (by with_unfolding_all rfl) ?_
    subst hq
    exact pq_2i (x := 1) rfl ⟨_, rfl, rfl⟩
  · rw [h2, cond_false] at hq
    refine pq_s hB 2 (pc' := 10) (L' := [(0, .ref 185), (1, .int a0)]) (st' := [.int 2, .ref 185]) (I' := I1) (J' := J1) (by with_unfolding_all rfl) ?_
    generalize hc4 : f225_185 I1 J1 2 = q4 at hq
    obtain ⟨v4, _, _⟩ := q4
    dsimp only at hq
    refine pq_1 rfl rfl rfl rfl (f225_185_pq hB hc4) ?_
    rintro _ I4 J4 ⟨rfl, rfl, rfl⟩
    subst hq
    exact pq_2i (x := v4) rfl ⟨_, rfl, rfl⟩
-- LPModel.scenePart, from 278 on
def f243_185_j278 (N : Nat) (I : tI) (J : tJ) (x2 : Int32) : Option (Int32 × tI × tJ) :=
  bif xcmp .eq x2 0 then some (0, I, J) else (match f227_185 N I J 59 with | none => none | some (v13, I13, J13) => bif xcmp .eq v13 0 then some (0, I13, J13) else some (1, I13, J13))
set_option maxRecDepth 100000 in
theorem f243_185_j278_pq {sc : List Int32} {B : xM} {N : Nat} {I : tI} {J : tJ} {x2 : Int32} (hB : kB pT B) : ∀ {X : Option (Int32 × tI × tJ)}, f243_185_j278 N I J x2 = X → pq sc B N (xt_243, 3, 3) 278 [(0, .ref 185), (2, .int x2)] [] I J (fun v I1 J1 => ∃ a, v = some (.int a) ∧ X = some (a, I1, J1)) := by
  intro X hq
  unfold f243_185_j278 at hq
  have hle : N ≤ N := Nat.le_refl N
  refine pq_s hB 1 (pc' := 279) (L' := [(0, .ref 185), (2, .int x2)]) (st' := [.int x2]) (I' := I) (J' := J) (by with_unfolding_all rfl) ?_
  refine pq_ifn hB rfl (fun h12 => ?_) (fun h12 => ?_)
  · rw [h12, cond_true] at hq
    refine pq_s hB 1 (pc' := 296) (L' := [(0, .ref 185), (2, .int x2)]) (st' := [.int 0]) (I' := I) (J' := J) (by with_unfolding_all rfl) ?_
    subst hq
    exact pq_2i (x := 0) rfl ⟨_, rfl, rfl⟩
  · rw [h12, cond_false] at hq
    refine pq_s hB 2 (pc' := 285) (L' := [(0, .ref 185), (2, .int x2)]) (st' := [.int 59, .ref 185]) (I' := I) (J' := J) (by with_unfolding_all rfl) ?_
    refine pq_1 rfl rfl rfl rfl (pq_le hle (f227_185_pq hB rfl)) ?_
    rintro _ I13 J13 ⟨v13, rfl, hc13⟩
    rw [hc13] at hq
    dsimp only at hq
    refine pq_ifn hB rfl (fun h14 => ?_) (fun h14 => ?_)
    · rw [h14, cond_true] at hq
      refine pq_s hB 1 (pc' := 296) (L' := [(0, .ref 185), (2, .int x2)]) (st' := [.int 0]) (I' := I13) (J' := J13) (by with_unfolding_all rfl) ?_
      subst hq
      exact pq_2i (x := 0) rfl ⟨_, rfl, rfl⟩
    · rw [h14, cond_false] at hq
      refine pq_s hB 2 (pc' := 296) (L' := [(0, .ref 185), (2, .int x2)]) (st' := [.int 1]) (I' := I13) (J' := J13) (by with_unfolding_all rfl) ?_
      subst hq
      exact pq_2i (x := 1) rfl ⟨_, rfl, rfl⟩
-- LPModel.scenePart, from 165 on
def f243_185_j165 (N : Nat) (I : tI) (J : tJ) (s0 : Int32) : Option (Int32 × tI × tJ) :=
  f243_185_j278 N I J s0
set_option maxRecDepth 100000 in
theorem f243_185_j165_pq {sc : List Int32} {B : xM} {N : Nat} {I : tI} {J : tJ} {s0 : Int32} (hB : kB pT B) : ∀ {X : Option (Int32 × tI × tJ)}, f243_185_j165 N I J s0 = X → pq sc B N (xt_243, 3, 3) 165 [(0, .ref 185)] [.int s0] I J (fun v I1 J1 => ∃ a, v = some (.int a) ∧ X = some (a, I1, J1)) := by
  intro X hq
  unfold f243_185_j165 at hq
  have hle : N ≤ N := Nat.le_refl N
  refine pq_s hB 2 (pc' := 278) (L' := [(2, .int s0), (0, .ref 185)]) (st' := []) (I' := I) (J' := J) (by with_unfolding_all rfl) ?_
  refine pq_perm (L := [(0, .ref 185), (2, .int s0)]) (leqn_of ⟨rfl, rfl, trivial⟩ ⟨rfl, rfl, trivial⟩ ⟨rfl, rfl, trivial⟩) ?_
  exact f243_185_j278_pq hB hq
-- LPModel.scenePart, from 164 on
def f243_185_j164 (N : Nat) (I : tI) (J : tJ) : Option (Int32 × tI × tJ) :=
  f243_185_j165 N I J 0
set_option maxRecDepth 100000 in
theorem f243_185_j164_pq {sc : List Int32} {B : xM} {N : Nat} {I : tI} {J : tJ} (hB : kB pT B) : ∀ {X : Option (Int32 × tI × tJ)}, f243_185_j164 N I J = X → pq sc B N (xt_243, 3, 3) 164 [(0, .ref 185)] [] I J (fun v I1 J1 => ∃ a, v = some (.int a) ∧ X = some (a, I1, J1)) := by
  intro X hq
  unfold f243_185_j164 at hq
  have hle : N ≤ N := Nat.le_refl N
  refine pq_s hB 1 (pc' := 165) (L' := [(0, .ref 185)]) (st' := [.int 0]) (I' := I) (J' := J) (by with_unfolding_all rfl) ?_
  exact f243_185_j165_pq hB hq
-- LPModel.wantWord
def f228_185_1002 (N : Nat) (I : tI) (J : tJ) (a0 : Int32) : Option (Int32 × tI × tJ) :=
  (match f224_185_1002 N I J with | none => none | some (v1, I1, J1) => bif xcmp .eq v1 a0 then (match f222_185 N I1 J1 with | none => none | some (_, I3, J3) => some (1, I3, J3)) else (match f225_185 I1 J1 2 with | (v4, I4, J4) => some (v4, I4, J4)))
set_option maxRecDepth 100000 in
theorem f228_185_1002_pq {sc : List Int32} {B : xM} {N : Nat} {I : tI} {J : tJ} {a0 : Int32} (hB : kB pT B) : ∀ {X : Option (Int32 × tI × tJ)}, f228_185_1002 N I J a0 = X → pq sc B N (xt_228, 3, 3) 0 [(0, .ref 185), (1, .retAddr 2), (2, .int a0)] [] I J (fun v I1 J1 => ∃ a, v = some (.int a) ∧ X = some (a, I1, J1)) := by
  intro X hq
  unfold f228_185_1002 at hq
  have hle : N ≤ N := Nat.le_refl N
  refine pq_s hB 2 (pc' := 2) (L' := [(0, .ref 185), (1, .retAddr 2), (2, .int a0)]) (st' := [.retAddr 2, .ref 185]) (I' := I) (J' := J) (by with_unfolding_all rfl) ?_
  refine pq_1 rfl rfl rfl rfl (pq_le hle (f224_185_1002_pq hB rfl)) ?_
  rintro _ I1 J1 ⟨v1, rfl, hc1⟩
  rw [hc1] at hq
  dsimp only at hq
  refine pq_s hB 1 (pc' := 6) (L' := [(0, .ref 185), (1, .retAddr 2), (2, .int a0)]) (st' := [.int a0, .int v1]) (I' := I1) (J' := J1) (by with_unfolding_all rfl) ?_
  refine pq_icn hB rfl (fun h2 => ?_) (fun h2 => ?_)
  · rw [h2, cond_true] at hq
    refine pq_s hB 1 (pc' := 16) (L' := [(0, .ref 185), (1, .retAddr 2), (2, .int a0)]) (st' := [.ref 185]) (I' := I1) (J' := J1) (by with_unfolding_all rfl) ?_
    refine pq_1 rfl rfl rfl rfl (pq_le hle (f222_185_pq hB rfl)) ?_
    rintro _ I3 J3 ⟨rfl, hc3⟩
    rw [hc3] at hq
    dsimp only at hq
    refine pq_s hB 1 (pc' := 20) (L' := [(0, .ref 185), (1, .retAddr 2), (2, .int a0)]) (st' := [.int 1]) (I' := I3) (J' := J3) (by with_unfolding_all rfl) ?_
    subst hq
    exact pq_2i (x := 1) rfl ⟨_, rfl, rfl⟩
  · rw [h2, cond_false] at hq
    refine pq_s hB 2 (pc' := 11) (L' := [(0, .ref 185), (1, .retAddr 2), (2, .int a0)]) (st' := [.int 2, .ref 185]) (I' := I1) (J' := J1) (by with_unfolding_all rfl) ?_
    generalize hc4 : f225_185 I1 J1 2 = q4 at hq
    obtain ⟨v4, _, _⟩ := q4
    dsimp only at hq
    refine pq_1 rfl rfl rfl rfl (f225_185_pq hB hc4) ?_
    rintro _ I4 J4 ⟨rfl, rfl, rfl⟩
    subst hq
    exact pq_2i (x := v4) rfl ⟨_, rfl, rfl⟩
-- LPModel.scenePart, from 215 on
def f243_185_j215 (N : Nat) (I : tI) (J : tJ) (s0 : Int32) : Option (Int32 × tI × tJ) :=
  f243_185_j278 N I J s0
set_option maxRecDepth 100000 in
theorem f243_185_j215_pq {sc : List Int32} {B : xM} {N : Nat} {I : tI} {J : tJ} {s0 : Int32} (hB : kB pT B) : ∀ {X : Option (Int32 × tI × tJ)}, f243_185_j215 N I J s0 = X → pq sc B N (xt_243, 3, 3) 215 [(0, .ref 185)] [.int s0] I J (fun v I1 J1 => ∃ a, v = some (.int a) ∧ X = some (a, I1, J1)) := by
  intro X hq
  unfold f243_185_j215 at hq
  have hle : N ≤ N := Nat.le_refl N
  refine pq_s hB 2 (pc' := 278) (L' := [(2, .int s0), (0, .ref 185)]) (st' := []) (I' := I) (J' := J) (by with_unfolding_all rfl) ?_
  refine pq_perm (L := [(0, .ref 185), (2, .int s0)]) (leqn_of ⟨rfl, rfl, trivial⟩ ⟨rfl, rfl, trivial⟩ ⟨rfl, rfl, trivial⟩) ?_
  exact f243_185_j278_pq hB hq
-- LPModel.scenePart, from 214 on
def f243_185_j214 (N : Nat) (I : tI) (J : tJ) : Option (Int32 × tI × tJ) :=
  f243_185_j215 N I J 0
set_option maxRecDepth 100000 in
theorem f243_185_j214_pq {sc : List Int32} {B : xM} {N : Nat} {I : tI} {J : tJ} (hB : kB pT B) : ∀ {X : Option (Int32 × tI × tJ)}, f243_185_j214 N I J = X → pq sc B N (xt_243, 3, 3) 214 [(0, .ref 185)] [] I J (fun v I1 J1 => ∃ a, v = some (.int a) ∧ X = some (a, I1, J1)) := by
  intro X hq
  unfold f243_185_j214 at hq
  have hle : N ≤ N := Nat.le_refl N
  refine pq_s hB 1 (pc' := 215) (L' := [(0, .ref 185)]) (st' := [.int 0]) (I' := I) (J' := J) (by with_unfolding_all rfl) ?_
  exact f243_185_j215_pq hB hq
-- LPModel.cellTo, from 86 on
def f238_185_j86 (N : Nat) (I : tI) (J : tJ) (x1 : Int32) (x3 : Int32) : Option (Int32 × tI × tJ) :=
  (match f229_185 N I J (x3 + 1) 0 ((I 186 2481) - 1) with | none => none | some (v4, I4, J4) => bif xcmp .ne v4 0 then some (1, (tup I4 186 ((x1).toNatClampNeg) ((6 * (I4 186 ((x3 + 1)).toNatClampNeg)) + (I4 186 (x3).toNatClampNeg))), J4) else some (0, I4, J4))
set_option maxRecDepth 100000 in
theorem f238_185_j86_pq {sc : List Int32} {B : xM} {N : Nat} {I : tI} {J : tJ} {x1 : Int32} {x3 : Int32} (hB : kB pT B) : ∀ {X : Option (Int32 × tI × tJ)}, f238_185_j86 N I J x1 x3 = X → pq sc B N (xt_238, 4, 3) 86 [(0, .ref 185), (1, .int x1), (3, .int x3)] [] I J (fun v I1 J1 => ∃ a, v = some (.int a) ∧ X = some (a, I1, J1)) := by
  intro X hq
  unfold f238_185_j86 at hq
  have hle : N ≤ N := Nat.le_refl N
  refine pq_s hB 11 (pc' := 101) (L' := [(0, .ref 185), (1, .int x1), (3, .int x3)]) (st' := [.int ((I 186 2481) - 1), .int 0, .int (x3 + 1), .ref 185]) (I' := I) (J' := J) (by with_unfolding_all rfl) ?_
  refine pq_1 rfl rfl rfl rfl (pq_le hle (f229_185_pq hB rfl)) ?_
  rintro _ I4 J4 ⟨v4, rfl, hc4⟩
  rw [hc4] at hq
  dsimp only at hq
  refine pq_ifn hB rfl (fun h5 => ?_) (fun h5 => ?_)
  · rw [h5, cond_true] at hq
    refine pq_s hB 18 (pc' := 134) (L' := [(0, .ref 185), (1, .int x1), (3, .int x3)]) (st' := [.int 1]) (I' := (tup I4 186 ((x1).toNatClampNeg) ((6 * (I4 186 ((x3 + 1)).toNatClampNeg)) + (I4 186 (x3).toNatClampNeg)))) (J' := J4) (by with_unfolding_all rfl) ?_
    subst hq
    exact pq_2i (x := 1) rfl ⟨_, rfl, rfl⟩
  · rw [h5, cond_false] at hq
    refine pq_s hB 1 (pc' := 108) (L' := [(0, .ref 185), (1, .int x1), (3, .int x3)]) (st' := [.int 0]) (I' := I4) (J' := J4) (by with_unfolding_all rfl) ?_
    subst hq
    exact pq_2i (x := 0) rfl ⟨_, rfl, rfl⟩
-- LPModel.isToldCell, the loop at 22, to [67]
def f239_185_l22 (N : Nat) : Nat → tI → tJ → Int32 → Int32 → Int32 → Option (Int32 × Int32 × Int32 × tI × tJ)
  | 0, _, _, _, _, _ => none
  | k + 1, I, J, x1, x2, x3 =>
    bif xcmp .ge x3 (I 186 2482) then some (x1, x2, x3, I, J) else bif xcmp .ne x2 0 then f239_185_l22 N k I J x1 1 (x3 + 1) else bif xcmp .ne (I 186 ((2520 + (14 * x3))).toNatClampNeg) x1 then f239_185_l22 N k I J x1 0 (x3 + 1) else f239_185_l22 N k I J x1 1 (x3 + 1)
set_option maxRecDepth 100000 in
theorem f239_185_l22_pq {sc : List Int32} {B : xM} {N : Nat} {P : Option Value → tI → tJ → Prop} (hB : kB pT B) : ∀ (k : Nat), k ≤ N → ∀ (b m : Nat), b ≤ k → b ≤ m → ∀ {I : tI} {J : tJ} {x1 : Int32} {x2 : Int32} {x3 : Int32} {Y : Option (Int32 × Int32 × Int32 × tI × tJ)}, f239_185_l22 N k I J x1 x2 x3 = Y → (∀ {y1 : Int32} {y2 : Int32} {y3 : Int32} {I1 : tI} {J1 : tJ}, Y = some (y1, y2, y3, I1, J1) → pq sc B m (xt_239, 4, 3) 67 [(0, .ref 185), (1, .int y1), (2, .int y2), (3, .int y3)] [] I1 J1 P) → pq sc B b (xt_239, 4, 3) 22 [(0, .ref 185), (1, .int x1), (2, .int x2), (3, .int x3)] [] I J P
  | 0, _, b, _, hb, _, _, _, _, _, _, _, _, _ => by
    have e : b = 0 := by omega
    subst e
    exact pq_zero
  | _ + 1, _, 0, _, _, _, _, _, _, _, _, _, _, _ => pq_zero
  | k + 1, hk, b + 1, m, hb, hm, I, J, x1, x2, x3, Y, hq, hx0 => by
    unfold f239_185_l22 at hq
    have hle : b ≤ N := by omega
    refine pq_s1 hB 4 (pc' := 31) (L' := [(0, .ref 185), (1, .int x1), (2, .int x2), (3, .int x3)]) (st' := [.int (I 186 2482), .int x3]) (I' := I) (J' := J) (by with_unfolding_all rfl) ?_
    refine pq_icn hB rfl (fun h2 => ?_) (fun h2 => ?_)
    · rw [h2, cond_true] at hq
      exact pq_le (by omega) (hx0 hq.symm)
    · rw [h2, cond_false] at hq
      refine pq_s hB 1 (pc' := 35) (L' := [(0, .ref 185), (1, .int x1), (2, .int x2), (3, .int x3)]) (st' := [.int x2]) (I' := I) (J' := J) (by with_unfolding_all rfl) ?_
      refine pq_ifn hB rfl (fun h3 => ?_) (fun h3 => ?_)
      · rw [h3, cond_true] at hq
        refine pq_s hB 5 (pc' := 22) (L' := [(3, .int (x3 + 1)), (2, .int 1), (0, .ref 185), (1, .int x1)]) (st' := []) (I' := I) (J' := J) (by with_unfolding_all rfl) ?_
        refine pq_perm (L := [(0, .ref 185), (1, .int x1), (2, .int 1), (3, .int (x3 + 1))]) (leqn_of ⟨rfl, rfl, rfl, rfl, trivial⟩ ⟨rfl, rfl, rfl, rfl, trivial⟩ ⟨rfl, rfl, rfl, rfl, trivial⟩) ?_
        exact f239_185_l22_pq hB k (by omega) b m (by omega) (by omega) hq hx0
      · rw [h3, cond_false] at hq
        refine pq_s hB 9 (pc' := 52) (L' := [(0, .ref 185), (1, .int x1), (2, .int x2), (3, .int x3)]) (st' := [.int x1, .int (I 186 ((2520 + (14 * x3))).toNatClampNeg)]) (I' := I) (J' := J) (by with_unfolding_all rfl) ?_
        refine pq_icn hB rfl (fun h4 => ?_) (fun h4 => ?_)
        · rw [h4, cond_true] at hq
          refine pq_s hB 4 (pc' := 22) (L' := [(3, .int (x3 + 1)), (2, .int 0), (0, .ref 185), (1, .int x1)]) (st' := []) (I' := I) (J' := J) (by with_unfolding_all rfl) ?_
          refine pq_perm (L := [(0, .ref 185), (1, .int x1), (2, .int 0), (3, .int (x3 + 1))]) (leqn_of ⟨rfl, rfl, rfl, rfl, trivial⟩ ⟨rfl, rfl, rfl, rfl, trivial⟩ ⟨rfl, rfl, rfl, rfl, trivial⟩) ?_
          exact f239_185_l22_pq hB k (by omega) b m (by omega) (by omega) hq hx0
        · rw [h4, cond_false] at hq
          refine pq_s hB 5 (pc' := 22) (L' := [(3, .int (x3 + 1)), (2, .int 1), (0, .ref 185), (1, .int x1)]) (st' := []) (I' := I) (J' := J) (by with_unfolding_all rfl) ?_
          refine pq_perm (L := [(0, .ref 185), (1, .int x1), (2, .int 1), (3, .int (x3 + 1))]) (leqn_of ⟨rfl, rfl, rfl, rfl, trivial⟩ ⟨rfl, rfl, rfl, rfl, trivial⟩ ⟨rfl, rfl, rfl, rfl, trivial⟩) ?_
          exact f239_185_l22_pq hB k (by omega) b m (by omega) (by omega) hq hx0
-- LPModel.isToldCell, from 19 on
def f239_185_j19 (N : Nat) (I : tI) (J : tJ) (x1 : Int32) (s0 : Int32) : Option (Int32 × tI × tJ) :=
  (match f239_185_l22 N N I J x1 s0 0 with | none => none | some (y2_1, y2_2, y2_3, I2, J2) => some (y2_2, I2, J2))
set_option maxRecDepth 100000 in
theorem f239_185_j19_pq {sc : List Int32} {B : xM} {N : Nat} {I : tI} {J : tJ} {x1 : Int32} {s0 : Int32} (hB : kB pT B) : ∀ {X : Option (Int32 × tI × tJ)}, f239_185_j19 N I J x1 s0 = X → pq sc B N (xt_239, 4, 3) 19 [(0, .ref 185), (1, .int x1)] [.int s0] I J (fun v I1 J1 => ∃ a, v = some (.int a) ∧ X = some (a, I1, J1)) := by
  intro X hq
  unfold f239_185_j19 at hq
  have hle : N ≤ N := Nat.le_refl N
  refine pq_s hB 3 (pc' := 22) (L' := [(3, .int 0), (2, .int s0), (0, .ref 185), (1, .int x1)]) (st' := []) (I' := I) (J' := J) (by with_unfolding_all rfl) ?_
  refine pq_perm (L := [(0, .ref 185), (1, .int x1), (2, .int s0), (3, .int 0)]) (leqn_of ⟨rfl, rfl, rfl, rfl, trivial⟩ ⟨rfl, rfl, rfl, rfl, trivial⟩ ⟨rfl, rfl, rfl, rfl, trivial⟩) ?_
  refine f239_185_l22_pq hB N (Nat.le_refl N) N N hle (Nat.le_refl N) rfl ?_
  intro y2_1 y2_2 y2_3 I2 J2 hc2
  rw [hc2] at hq
  dsimp only at hq
  refine pq_s hB 1 (pc' := 68) (L' := [(0, .ref 185), (1, .int y2_1), (2, .int y2_2), (3, .int y2_3)]) (st' := [.int y2_2]) (I' := I2) (J' := J2) (by with_unfolding_all rfl) ?_
  subst hq
  exact pq_2i (x := y2_2) rfl ⟨_, rfl, rfl⟩
-- LPModel.isToldCell
def f239_185 (N : Nat) (I : tI) (J : tJ) (a0 : Int32) : Option (Int32 × tI × tJ) :=
  bif xcmp .ne (I 186 ((2490 + a0)).toNatClampNeg) 1 then f239_185_j19 N I J a0 0 else f239_185_j19 N I J a0 1
set_option maxRecDepth 100000 in
theorem f239_185_pq {sc : List Int32} {B : xM} {N : Nat} {I : tI} {J : tJ} {a0 : Int32} (hB : kB pT B) : ∀ {X : Option (Int32 × tI × tJ)}, f239_185 N I J a0 = X → pq sc B N (xt_239, 4, 3) 0 [(0, .ref 185), (1, .int a0)] [] I J (fun v I1 J1 => ∃ a, v = some (.int a) ∧ X = some (a, I1, J1)) := by
  intro X hq
  unfold f239_185 at hq
  have hle : N ≤ N := Nat.le_refl N
  refine pq_s hB 7 (pc' := 11) (L' := [(0, .ref 185), (1, .int a0)]) (st' := [.int 1, .int (I 186 ((2490 + a0)).toNatClampNeg)]) (I' := I) (J' := J) (by with_unfolding_all rfl) ?_
  refine pq_icn hB rfl (fun h1 => ?_) (fun h1 => ?_)
  · rw [h1, cond_true] at hq
    refine pq_s hB 1 (pc' := 19) (L' := [(0, .ref 185), (1, .int a0)]) (st' := [.int 0]) (I' := I) (J' := J) (by with_unfolding_all rfl) ?_
    exact f239_185_j19_pq hB hq
  · rw [h1, cond_false] at hq
    refine pq_s hB 2 (pc' := 19) (L' := [(0, .ref 185), (1, .int a0)]) (st' := [.int 1]) (I' := I) (J' := J) (by with_unfolding_all rfl) ?_
    exact f239_185_j19_pq hB hq
-- LPModel.cellTo
def f238_185 (N : Nat) (I : tI) (J : tJ) (a0 : Int32) (a1 : Int32) : Option (Int32 × tI × tJ) :=
  (match f229_185 N I J 3092 0 ((I 186 2480) - 1) with | none => none | some (v1, I1, J1) => bif xcmp .ne v1 0 then (bif xcmp .ne (I1 185 12) 3 then f238_185_j86 N I1 J1 a0 3092 else bif xcmp .lt (I1 185 15) 0 then f238_185_j86 N I1 J1 a0 3092 else bif xcmp .ge (I1 185 15) (I1 186 2481) then f238_185_j86 N I1 J1 a0 3092 else bif xcmp .eq a1 0 then f238_185_j86 N I1 J1 a0 3092 else (match f239_185 N I1 J1 ((6 * (I1 185 15)) + (I1 186 3092)) with | none => none | some (v7, I7, J7) => bif xcmp .eq v7 0 then f238_185_j86 N I7 J7 a0 3092 else (match f225_185 I7 J7 5 with | (v9, I9, J9) => some (v9, I9, J9)))) else some (0, I1, J1))
set_option maxRecDepth 100000 in
theorem f238_185_pq {sc : List Int32} {B : xM} {N : Nat} {I : tI} {J : tJ} {a0 : Int32} {a1 : Int32} (hB : kB pT B) : ∀ {X : Option (Int32 × tI × tJ)}, f238_185 N I J a0 a1 = X → pq sc B N (xt_238, 4, 3) 0 [(0, .ref 185), (1, .int a0), (2, .int a1)] [] I J (fun v I1 J1 => ∃ a, v = some (.int a) ∧ X = some (a, I1, J1)) := by
  intro X hq
  unfold f238_185 at hq
  have hle : N ≤ N := Nat.le_refl N
  refine pq_s hB 11 (pc' := 17) (L' := [(3, .int 3092), (0, .ref 185), (1, .int a0), (2, .int a1)]) (st' := [.int ((I 186 2480) - 1), .int 0, .int 3092, .ref 185]) (I' := I) (J' := J) (by with_unfolding_all rfl) ?_
  refine pq_1 rfl rfl rfl rfl (pq_le hle (f229_185_pq hB rfl)) ?_
  rintro _ I1 J1 ⟨v1, rfl, hc1⟩
  rw [hc1] at hq
  dsimp only at hq
  refine pq_ifn hB rfl (fun h2 => ?_) (fun h2 => ?_)
  · rw [h2, cond_true] at hq
    refine pq_s hB 3 (pc' := 30) (L' := [(3, .int 3092), (0, .ref 185), (1, .int a0), (2, .int a1)]) (st' := [.int 3, .int (I1 185 12)]) (I' := I1) (J' := J1) (by with_unfolding_all rfl) ?_
    refine pq_icn hB rfl (fun h3 => ?_) (fun h3 => ?_)
    · rw [h3, cond_true] at hq
      refine pq_perm (L := [(0, .ref 185), (1, .int a0), (3, .int 3092)]) (leqn_of ⟨rfl, rfl, rfl, trivial⟩ ⟨rfl, rfl, rfl, trivial⟩ ⟨rfl, rfl, rfl, rfl, trivial⟩) ?_
      exact f238_185_j86_pq hB hq
    · rw [h3, cond_false] at hq
      refine pq_s hB 2 (pc' := 37) (L' := [(3, .int 3092), (0, .ref 185), (1, .int a0), (2, .int a1)]) (st' := [.int (I1 185 15)]) (I' := I1) (J' := J1) (by with_unfolding_all rfl) ?_
      refine pq_ifn hB rfl (fun h4 => ?_) (fun h4 => ?_)
      · rw [h4, cond_true] at hq
        refine pq_perm (L := [(0, .ref 185), (1, .int a0), (3, .int 3092)]) (leqn_of ⟨rfl, rfl, rfl, trivial⟩ ⟨rfl, rfl, rfl, trivial⟩ ⟨rfl, rfl, rfl, rfl, trivial⟩) ?_
        exact f238_185_j86_pq hB hq
      · rw [h4, cond_false] at hq
        refine pq_s hB 6 (pc' := 52) (L' := [(3, .int 3092), (0, .ref 185), (1, .int a0), (2, .int a1)]) (st' := [.int (I1 186 2481), .int (I1 185 15)]) (I' := I1) (J' := J1) (by with_unfolding_all rfl) ?_
        refine pq_icn hB rfl (fun h5 => ?_) (fun h5 => ?_)
        · rw [h5, cond_true] at hq
          refine pq_perm (L := [(0, .ref 185), (1, .int a0), (3, .int 3092)]) (leqn_of ⟨rfl, rfl, rfl, trivial⟩ ⟨rfl, rfl, rfl, trivial⟩ ⟨rfl, rfl, rfl, rfl, trivial⟩) ?_
          exact f238_185_j86_pq hB hq
        · rw [h5, cond_false] at hq
          refine pq_s hB 1 (pc' := 56) (L' := [(3, .int 3092), (0, .ref 185), (1, .int a0), (2, .int a1)]) (st' := [.int a1]) (I' := I1) (J' := J1) (by with_unfolding_all rfl) ?_
          refine pq_ifn hB rfl (fun h6 => ?_) (fun h6 => ?_)
          · rw [h6, cond_true] at hq
            refine pq_perm (L := [(0, .ref 185), (1, .int a0), (3, .int 3092)]) (leqn_of ⟨rfl, rfl, rfl, trivial⟩ ⟨rfl, rfl, rfl, trivial⟩ ⟨rfl, rfl, rfl, rfl, trivial⟩) ?_
            exact f238_185_j86_pq hB hq
          · rw [h6, cond_false] at hq
            refine pq_s hB 10 (pc' := 74) (L' := [(3, .int 3092), (0, .ref 185), (1, .int a0), (2, .int a1)]) (st' := [.int ((6 * (I1 185 15)) + (I1 186 3092)), .ref 185]) (I' := I1) (J' := J1) (by with_unfolding_all rfl) ?_
            refine pq_1 rfl rfl rfl rfl (pq_le hle (f239_185_pq hB rfl)) ?_
            rintro _ I7 J7 ⟨v7, rfl, hc7⟩
            rw [hc7] at hq
            dsimp only at hq
            refine pq_ifn hB rfl (fun h8 => ?_) (fun h8 => ?_)
            · rw [h8, cond_true] at hq
              refine pq_perm (L := [(0, .ref 185), (1, .int a0), (3, .int 3092)]) (leqn_of ⟨rfl, rfl, rfl, trivial⟩ ⟨rfl, rfl, rfl, trivial⟩ ⟨rfl, rfl, rfl, rfl, trivial⟩) ?_
              exact f238_185_j86_pq hB hq
            · rw [h8, cond_false] at hq
              refine pq_s hB 2 (pc' := 82) (L' := [(3, .int 3092), (0, .ref 185), (1, .int a0), (2, .int a1)]) (st' := [.int 5, .ref 185]) (I' := I7) (J' := J7) (by with_unfolding_all rfl) ?_
              generalize hc9 : f225_185 I7 J7 5 = q9 at hq
              obtain ⟨v9, _, _⟩ := q9
              dsimp only at hq
              refine pq_1 rfl rfl rfl rfl (f225_185_pq hB hc9) ?_
              rintro _ I9 J9 ⟨rfl, rfl, rfl⟩
              subst hq
              exact pq_2i (x := v9) rfl ⟨_, rfl, rfl⟩
  · rw [h2, cond_false] at hq
    refine pq_s hB 1 (pc' := 24) (L' := [(3, .int 3092), (0, .ref 185), (1, .int a0), (2, .int a1)]) (st' := [.int 0]) (I' := I1) (J' := J1) (by with_unfolding_all rfl) ?_
    subst hq
    exact pq_2i (x := 0) rfl ⟨_, rfl, rfl⟩
-- LPModel.isName
def f230_185_1002 (N : Nat) (I : tI) (J : tJ) : Option (Int32 × tI × tJ) :=
  bif xcmp .ne (I 185 12) 2 then some (0, I, J) else bif xcmp .gt ((I 185 14) - (I 185 13)) 8 then some (0, I, J) else (match f224_185_1002 N I J with | none => none | some (v3, I3, J3) => bif xcmp .ne v3 (-1) then some (0, I3, J3) else some (1, I3, J3))
set_option maxRecDepth 100000 in
theorem f230_185_1002_pq {sc : List Int32} {B : xM} {N : Nat} {I : tI} {J : tJ} (hB : kB pT B) : ∀ {X : Option (Int32 × tI × tJ)}, f230_185_1002 N I J = X → pq sc B N (xt_230, 2, 3) 0 [(0, .ref 185), (1, .retAddr 2)] [] I J (fun v I1 J1 => ∃ a, v = some (.int a) ∧ X = some (a, I1, J1)) := by
  intro X hq
  unfold f230_185_1002 at hq
  have hle : N ≤ N := Nat.le_refl N
  refine pq_s hB 3 (pc' := 5) (L' := [(0, .ref 185), (1, .retAddr 2)]) (st' := [.int 2, .int (I 185 12)]) (I' := I) (J' := J) (by with_unfolding_all rfl) ?_
  refine pq_icn hB rfl (fun h1 => ?_) (fun h1 => ?_)
  · rw [h1, cond_true] at hq
    refine pq_s hB 1 (pc' := 36) (L' := [(0, .ref 185), (1, .retAddr 2)]) (st' := [.int 0]) (I' := I) (J' := J) (by with_unfolding_all rfl) ?_
    subst hq
    exact pq_2i (x := 0) rfl ⟨_, rfl, rfl⟩
  · rw [h1, cond_false] at hq
    refine pq_s hB 6 (pc' := 19) (L' := [(0, .ref 185), (1, .retAddr 2)]) (st' := [.int 8, .int ((I 185 14) - (I 185 13))]) (I' := I) (J' := J) (by with_unfolding_all rfl) ?_
    refine pq_icn hB rfl (fun h2 => ?_) (fun h2 => ?_)
    · rw [h2, cond_true] at hq
      refine pq_s hB 1 (pc' := 36) (L' := [(0, .ref 185), (1, .retAddr 2)]) (st' := [.int 0]) (I' := I) (J' := J) (by with_unfolding_all rfl) ?_
      subst hq
      exact pq_2i (x := 0) rfl ⟨_, rfl, rfl⟩
    · rw [h2, cond_false] at hq
      refine pq_s hB 2 (pc' := 24) (L' := [(0, .ref 185), (1, .retAddr 2)]) (st' := [.retAddr 2, .ref 185]) (I' := I) (J' := J) (by with_unfolding_all rfl) ?_
      refine pq_1 rfl rfl rfl rfl (pq_le hle (f224_185_1002_pq hB rfl)) ?_
      rintro _ I3 J3 ⟨v3, rfl, hc3⟩
      rw [hc3] at hq
      dsimp only at hq
      refine pq_s hB 1 (pc' := 28) (L' := [(0, .ref 185), (1, .retAddr 2)]) (st' := [.int (-1), .int v3]) (I' := I3) (J' := J3) (by with_unfolding_all rfl) ?_
      refine pq_icn hB rfl (fun h4 => ?_) (fun h4 => ?_)
      · rw [h4, cond_true] at hq
        refine pq_s hB 1 (pc' := 36) (L' := [(0, .ref 185), (1, .retAddr 2)]) (st' := [.int 0]) (I' := I3) (J' := J3) (by with_unfolding_all rfl) ?_
        subst hq
        exact pq_2i (x := 0) rfl ⟨_, rfl, rfl⟩
      · rw [h4, cond_false] at hq
        refine pq_s hB 2 (pc' := 36) (L' := [(0, .ref 185), (1, .retAddr 2)]) (st' := [.int 1]) (I' := I3) (J' := J3) (by with_unfolding_all rfl) ?_
        subst hq
        exact pq_2i (x := 1) rfl ⟨_, rfl, rfl⟩
-- LPModel.nameHere, the loop at 7, to [33]
def f231_185_l7 (N : Nat) : Nat → tI → tJ → Int64 → Int32 → Option (Int64 × Int32 × tI × tJ)
  | 0, _, _, _, _ => none
  | k + 1, I, J, x1, x3 =>
    bif xcmp .ge x3 (I 185 14) then some (x1, x3, I, J) else (match f219_185 I J x3 with | (v2, I2, J2) => f231_185_l7 N k I2 J2 ((x1 <<< ((Int32.toInt64 (8)) &&& 63)) ||| ((v2).toInt64)) (x3 + 1))
set_option maxRecDepth 100000 in
theorem f231_185_l7_pq {sc : List Int32} {B : xM} {N : Nat} {P : Option Value → tI → tJ → Prop} (hB : kB pT B) : ∀ (k : Nat), k ≤ N → ∀ (b m : Nat), b ≤ k → b ≤ m → ∀ {I : tI} {J : tJ} {x1 : Int64} {x3 : Int32} {Y : Option (Int64 × Int32 × tI × tJ)}, f231_185_l7 N k I J x1 x3 = Y → (∀ {y1 : Int64} {y3 : Int32} {I1 : tI} {J1 : tJ}, Y = some (y1, y3, I1, J1) → pq sc B m (xt_231, 4, 2) 33 [(0, .ref 185), (1, .long y1), (3, .int y3)] [] I1 J1 P) → pq sc B b (xt_231, 4, 2) 7 [(0, .ref 185), (1, .long x1), (3, .int x3)] [] I J P
  | 0, _, b, _, hb, _, _, _, _, _, _, _, _ => by
    have e : b = 0 := by omega
    subst e
    exact pq_zero
  | _ + 1, _, 0, _, _, _, _, _, _, _, _, _, _ => pq_zero
  | k + 1, hk, b + 1, m, hb, hm, I, J, x1, x3, Y, hq, hx0 => by
    unfold f231_185_l7 at hq
    have hle : b ≤ N := by omega
    refine pq_s1 hB 2 (pc' := 12) (L' := [(0, .ref 185), (1, .long x1), (3, .int x3)]) (st' := [.int (I 185 14), .int x3]) (I' := I) (J' := J) (by with_unfolding_all rfl) ?_
    refine pq_icn hB rfl (fun h1 => ?_) (fun h1 => ?_)
    · rw [h1, cond_true] at hq
      exact pq_le (by omega) (hx0 hq.symm)
    · rw [h1, cond_false] at hq
      refine pq_s hB 5 (pc' := 21) (L' := [(0, .ref 185), (1, .long x1), (3, .int x3)]) (st' := [.int x3, .ref 185, .long (x1 <<< ((Int32.toInt64 (8)) &&& 63))]) (I' := I) (J' := J) (by with_unfolding_all rfl) ?_
      generalize hc2 : f219_185 I J x3 = q2 at hq
      obtain ⟨v2, _, _⟩ := q2
      dsimp only at hq
      refine pq_1 rfl rfl rfl rfl (f219_185_pq hB hc2) ?_
      rintro _ I2 J2 ⟨rfl, rfl, rfl⟩
      refine pq_s hB 5 (pc' := 7) (L' := [(3, .int (x3 + 1)), (1, .long ((x1 <<< ((Int32.toInt64 (8)) &&& 63)) ||| ((v2).toInt64))), (0, .ref 185)]) (st' := []) (I' := I2) (J' := J2) (by with_unfolding_all rfl) ?_
      refine pq_perm (L := [(0, .ref 185), (1, .long ((x1 <<< ((Int32.toInt64 (8)) &&& 63)) ||| ((v2).toInt64))), (3, .int (x3 + 1))]) (leqn_of ⟨rfl, rfl, rfl, trivial⟩ ⟨rfl, rfl, rfl, trivial⟩ ⟨rfl, rfl, rfl, trivial⟩) ?_
      exact f231_185_l7_pq hB k (by omega) b m (by omega) (by omega) hq hx0
-- LPModel.nameHere
def f231_185 (N : Nat) (I : tI) (J : tJ) : Option (Int64 × tI × tJ) :=
  (match f231_185_l7 N N I J 0 (I 185 13) with | none => none | some (y1_1, y1_3, I1, J1) => some (y1_1, I1, J1))
set_option maxRecDepth 100000 in
theorem f231_185_pq {sc : List Int32} {B : xM} {N : Nat} {I : tI} {J : tJ} (hB : kB pT B) : ∀ {X : Option (Int64 × tI × tJ)}, f231_185 N I J = X → pq sc B N (xt_231, 4, 2) 0 [(0, .ref 185)] [] I J (fun v I1 J1 => ∃ a, v = some (.long a) ∧ X = some (a, I1, J1)) := by
  intro X hq
  unfold f231_185 at hq
  have hle : N ≤ N := Nat.le_refl N
  refine pq_s hB 5 (pc' := 7) (L' := [(3, .int (I 185 13)), (1, .long 0), (0, .ref 185)]) (st' := []) (I' := I) (J' := J) (by with_unfolding_all rfl) ?_
  refine pq_perm (L := [(0, .ref 185), (1, .long 0), (3, .int (I 185 13))]) (leqn_of ⟨rfl, rfl, rfl, trivial⟩ ⟨rfl, rfl, rfl, trivial⟩ ⟨rfl, rfl, rfl, trivial⟩) ?_
  refine f231_185_l7_pq hB N (Nat.le_refl N) N N hle (Nat.le_refl N) rfl ?_
  intro y1_1 y1_3 I1 J1 hc1
  rw [hc1] at hq
  dsimp only at hq
  refine pq_s hB 1 (pc' := 34) (L' := [(0, .ref 185), (1, .long y1_1), (3, .int y1_3)]) (st' := [.long y1_1]) (I' := I1) (J' := J1) (by with_unfolding_all rfl) ?_
  subst hq
  exact pq_2 (v := some (.long (y1_1))) rfl rfl (by with_unfolding_all rfl) ⟨_, rfl, rfl⟩
-- LPModel.findHere, the loop at 2, to [31, 23]
def f232_185_l2 (N : Nat) : Nat → tI → tJ → Int32 → Int32 → Int32 → Option (Nat × Int32 × Int32 × Int32 × tI × tJ)
  | 0, _, _, _, _, _ => none
  | k + 1, I, J, x1, x2, x3 =>
    bif xcmp .ge x3 x2 then some (0, x1, x2, x3, I, J) else (match f231_185 N I J with | none => none | some (v2, I2, J2) => bif xcmp .ne (lg_cmp (J 187 ((x1 + x3)).toNatClampNeg) v2) 0 then f232_185_l2 N k I2 J2 x1 x2 (x3 + 1) else some (1, x1, x2, x3, I2, J2))
set_option maxRecDepth 100000 in
theorem f232_185_l2_pq {sc : List Int32} {B : xM} {N : Nat} {P : Option Value → tI → tJ → Prop} (hB : kB pT B) : ∀ (k : Nat), k ≤ N → ∀ (b m : Nat), b ≤ k → b ≤ m → ∀ {I : tI} {J : tJ} {x1 : Int32} {x2 : Int32} {x3 : Int32} {Y : Option (Nat × Int32 × Int32 × Int32 × tI × tJ)}, f232_185_l2 N k I J x1 x2 x3 = Y → (∀ {y1 : Int32} {y2 : Int32} {y3 : Int32} {I1 : tI} {J1 : tJ}, Y = some (0, y1, y2, y3, I1, J1) → pq sc B m (xt_232, 4, 1) 31 [(0, .ref 185), (1, .int y1), (2, .int y2), (3, .int y3)] [] I1 J1 P) → (∀ {y1 : Int32} {y2 : Int32} {y3 : Int32} {I1 : tI} {J1 : tJ}, Y = some (1, y1, y2, y3, I1, J1) → pq sc B m (xt_232, 4, 1) 23 [(0, .ref 185), (1, .int y1), (2, .int y2), (3, .int y3)] [] I1 J1 P) → pq sc B b (xt_232, 4, 1) 2 [(0, .ref 185), (1, .int x1), (2, .int x2), (3, .int x3)] [] I J P
  | 0, _, b, _, hb, _, _, _, _, _, _, _, _, _, _ => by
    have e : b = 0 := by omega
    subst e
    exact pq_zero
  | _ + 1, _, 0, _, _, _, _, _, _, _, _, _, _, _, _ => pq_zero
  | k + 1, hk, b + 1, m, hb, hm, I, J, x1, x2, x3, Y, hq, hx0, hx1 => by
    unfold f232_185_l2 at hq
    have hle : b ≤ N := by omega
    refine pq_s1 hB 1 (pc' := 4) (L' := [(0, .ref 185), (1, .int x1), (2, .int x2), (3, .int x3)]) (st' := [.int x2, .int x3]) (I' := I) (J' := J) (by with_unfolding_all rfl) ?_
    refine pq_icn hB rfl (fun h1 => ?_) (fun h1 => ?_)
    · rw [h1, cond_true] at hq
      exact pq_le (by omega) (hx0 hq.symm)
    · rw [h1, cond_false] at hq
      refine pq_s hB 7 (pc' := 16) (L' := [(0, .ref 185), (1, .int x1), (2, .int x2), (3, .int x3)]) (st' := [.ref 185, .long (J 187 ((x1 + x3)).toNatClampNeg)]) (I' := I) (J' := J) (by with_unfolding_all rfl) ?_
      refine pq_1 rfl rfl rfl rfl (pq_le hle (f231_185_pq hB rfl)) ?_
      rintro _ I2 J2 ⟨v2, rfl, hc2⟩
      rw [hc2] at hq
      dsimp only at hq
      refine pq_s hB 1 (pc' := 20) (L' := [(0, .ref 185), (1, .int x1), (2, .int x2), (3, .int x3)]) (st' := [.int (lg_cmp (J 187 ((x1 + x3)).toNatClampNeg) v2)]) (I' := I2) (J' := J2) (by with_unfolding_all rfl) ?_
      refine pq_ifn hB rfl (fun h3 => ?_) (fun h3 => ?_)
      · rw [h3, cond_true] at hq
        refine pq_s hB 2 (pc' := 2) (L' := [(3, .int (x3 + 1)), (0, .ref 185), (1, .int x1), (2, .int x2)]) (st' := []) (I' := I2) (J' := J2) (by with_unfolding_all rfl) ?_
        refine pq_perm (L := [(0, .ref 185), (1, .int x1), (2, .int x2), (3, .int (x3 + 1))]) (leqn_of ⟨rfl, rfl, rfl, rfl, trivial⟩ ⟨rfl, rfl, rfl, rfl, trivial⟩ ⟨rfl, rfl, rfl, rfl, trivial⟩) ?_
        exact f232_185_l2_pq hB k (by omega) b m (by omega) (by omega) hq hx0 hx1
      · rw [h3, cond_false] at hq
        exact pq_le (by omega) (hx1 hq.symm)
-- LPModel.findHere
def f232_185 (N : Nat) (I : tI) (J : tJ) (a0 : Int32) (a1 : Int32) : Option (Int32 × tI × tJ) :=
  (match f232_185_l2 N N I J a0 a1 0 with | none => none | some (k1, y1_1, y1_2, y1_3, I1, J1) => bif Nat.beq k1 0 then (some ((-1), I1, J1)) else some (y1_3, I1, J1))
set_option maxRecDepth 100000 in
theorem f232_185_pq {sc : List Int32} {B : xM} {N : Nat} {I : tI} {J : tJ} {a0 : Int32} {a1 : Int32} (hB : kB pT B) : ∀ {X : Option (Int32 × tI × tJ)}, f232_185 N I J a0 a1 = X → pq sc B N (xt_232, 4, 1) 0 [(0, .ref 185), (1, .int a0), (2, .int a1)] [] I J (fun v I1 J1 => ∃ a, v = some (.int a) ∧ X = some (a, I1, J1)) := by
  intro X hq
  unfold f232_185 at hq
  have hle : N ≤ N := Nat.le_refl N
  refine pq_s hB 2 (pc' := 2) (L' := [(3, .int 0), (0, .ref 185), (1, .int a0), (2, .int a1)]) (st' := []) (I' := I) (J' := J) (by with_unfolding_all rfl) ?_
  refine pq_perm (L := [(0, .ref 185), (1, .int a0), (2, .int a1), (3, .int 0)]) (leqn_of ⟨rfl, rfl, rfl, rfl, trivial⟩ ⟨rfl, rfl, rfl, rfl, trivial⟩ ⟨rfl, rfl, rfl, rfl, trivial⟩) ?_
  refine f232_185_l2_pq hB N (Nat.le_refl N) N N hle (Nat.le_refl N) rfl ?_ ?_
  ·
    intro y1_1 y1_2 y1_3 I1 J1 hc1
    rw [hc1] at hq
    dsimp only at hq
    rw [show Nat.beq 0 0 = true from rfl, cond_true] at hq
    refine pq_s hB 1 (pc' := 32) (L' := [(0, .ref 185), (1, .int y1_1), (2, .int y1_2), (3, .int y1_3)]) (st' := [.int (-1)]) (I' := I1) (J' := J1) (by with_unfolding_all rfl) ?_
    subst hq
    exact pq_2i (x := (-1)) rfl ⟨_, rfl, rfl⟩
  ·
    intro y1_1 y1_2 y1_3 I1 J1 hc1
    rw [hc1] at hq
    dsimp only at hq
    rw [show Nat.beq 1 0 = false from rfl, cond_false] at hq
    refine pq_s hB 1 (pc' := 24) (L' := [(0, .ref 185), (1, .int y1_1), (2, .int y1_2), (3, .int y1_3)]) (st' := [.int y1_3]) (I' := I1) (J' := J1) (by with_unfolding_all rfl) ?_
    subst hq
    exact pq_2i (x := y1_3) rfl ⟨_, rfl, rfl⟩
-- LPModel.newOne
def f236_185 (N : Nat) (I : tI) (J : tJ) (a0 : Int32) (a1 : Int32) (a2 : Int32) : Option (Int32 × tI × tJ) :=
  bif xcmp .ne (I 186 ((2480 + a0)).toNatClampNeg) a1 then (match f222_185 N I J with | none => none | some (_, I2, J2) => (match f230_185_1002 N I2 J2 with | none => none | some (v3, I3, J3) => bif xcmp .ne v3 0 then (match f232_185 N I3 J3 60 (I3 186 2482) with | none => none | some (v5, I5, J5) => bif xcmp .ne v5 (-1) then (match f225_185 I5 J5 3 with | (v7, I7, J7) => some (v7, I7, J7)) else (match f232_185 N I5 J5 65 (I5 186 2483) with | none => none | some (v8, I8, J8) => bif xcmp .ne v8 (-1) then (match f225_185 I8 J8 3 with | (v10, I10, J10) => some (v10, I10, J10)) else (match f232_185 N I8 J8 71 (I8 186 2484) with | none => none | some (v11, I11, J11) => bif xcmp .eq v11 (-1) then (match f231_185 N I11 J11 with | none => none | some (v13, I13, J13) => (match f222_185 N I13 (tup J13 187 ((((60 + a2) + (I11 186 ((2480 + a0)).toNatClampNeg))).toNatClampNeg) v13) with | none => none | some (_, I14, J14) => some (1, I14, J14))) else (match f225_185 I11 J11 3 with | (v15, I15, J15) => some (v15, I15, J15))))) else (match f225_185 I3 J3 2 with | (v16, I16, J16) => some (v16, I16, J16)))) else (match f225_185 I J 6 with | (v17, I17, J17) => some (v17, I17, J17))
set_option maxRecDepth 100000 in
theorem f236_185_pq {sc : List Int32} {B : xM} {N : Nat} {I : tI} {J : tJ} {a0 : Int32} {a1 : Int32} {a2 : Int32} (hB : kB pT B) : ∀ {X : Option (Int32 × tI × tJ)}, f236_185 N I J a0 a1 a2 = X → pq sc B N (xt_236, 4, 3) 0 [(0, .ref 185), (1, .int a0), (2, .int a1), (3, .int a2)] [] I J (fun v I1 J1 => ∃ a, v = some (.int a) ∧ X = some (a, I1, J1)) := by
  intro X hq
  unfold f236_185 at hq
  have hle : N ≤ N := Nat.le_refl N
  refine pq_s hB 7 (pc' := 11) (L' := [(0, .ref 185), (1, .int a0), (2, .int a1), (3, .int a2)]) (st' := [.int a1, .int (I 186 ((2480 + a0)).toNatClampNeg)]) (I' := I) (J' := J) (by with_unfolding_all rfl) ?_
  refine pq_icn hB rfl (fun h1 => ?_) (fun h1 => ?_)
  · rw [h1, cond_true] at hq
    refine pq_s hB 1 (pc' := 22) (L' := [(0, .ref 185), (1, .int a0), (2, .int a1), (3, .int a2)]) (st' := [.ref 185]) (I' := I) (J' := J) (by with_unfolding_all rfl) ?_
    refine pq_1 rfl rfl rfl rfl (pq_le hle (f222_185_pq hB rfl)) ?_
    rintro _ I2 J2 ⟨rfl, hc2⟩
    rw [hc2] at hq
    dsimp only at hq
    refine pq_s hB 2 (pc' := 28) (L' := [(0, .ref 185), (1, .int a0), (2, .int a1), (3, .int a2)]) (st' := [.retAddr 2, .ref 185]) (I' := I2) (J' := J2) (by with_unfolding_all rfl) ?_
    refine pq_1 rfl rfl rfl rfl (pq_le hle (f230_185_1002_pq hB rfl)) ?_
    rintro _ I3 J3 ⟨v3, rfl, hc3⟩
    rw [hc3] at hq
    dsimp only at hq
    refine pq_ifn hB rfl (fun h4 => ?_) (fun h4 => ?_)
    · rw [h4, cond_true] at hq
      refine pq_s hB 6 (pc' := 51) (L' := [(0, .ref 185), (1, .int a0), (2, .int a1), (3, .int a2)]) (st' := [.int (I3 186 2482), .int 60, .ref 185]) (I' := I3) (J' := J3) (by with_unfolding_all rfl) ?_
      refine pq_1 rfl rfl rfl rfl (pq_le hle (f232_185_pq hB rfl)) ?_
      rintro _ I5 J5 ⟨v5, rfl, hc5⟩
      rw [hc5] at hq
      dsimp only at hq
      refine pq_s hB 1 (pc' := 55) (L' := [(0, .ref 185), (1, .int a0), (2, .int a1), (3, .int a2)]) (st' := [.int (-1), .int v5]) (I' := I5) (J' := J5) (by with_unfolding_all rfl) ?_
      refine pq_icn hB rfl (fun h6 => ?_) (fun h6 => ?_)
      · rw [h6, cond_true] at hq
        refine pq_s hB 2 (pc' := 96) (L' := [(0, .ref 185), (1, .int a0), (2, .int a1), (3, .int a2)]) (st' := [.int 3, .ref 185]) (I' := I5) (J' := J5) (by with_unfolding_all rfl) ?_
        generalize hc7 : f225_185 I5 J5 3 = q7 at hq
        obtain ⟨v7, _, _⟩ := q7
        dsimp only at hq
        refine pq_1 rfl rfl rfl rfl (f225_185_pq hB hc7) ?_
        rintro _ I7 J7 ⟨rfl, rfl, rfl⟩
        subst hq
        exact pq_2i (x := v7) rfl ⟨_, rfl, rfl⟩
      · rw [h6, cond_false] at hq
        refine pq_s hB 6 (pc' := 69) (L' := [(0, .ref 185), (1, .int a0), (2, .int a1), (3, .int a2)]) (st' := [.int (I5 186 2483), .int 65, .ref 185]) (I' := I5) (J' := J5) (by with_unfolding_all rfl) ?_
        refine pq_1 rfl rfl rfl rfl (pq_le hle (f232_185_pq hB rfl)) ?_
        rintro _ I8 J8 ⟨v8, rfl, hc8⟩
        rw [hc8] at hq
        dsimp only at hq
        refine pq_s hB 1 (pc' := 73) (L' := [(0, .ref 185), (1, .int a0), (2, .int a1), (3, .int a2)]) (st' := [.int (-1), .int v8]) (I' := I8) (J' := J8) (by with_unfolding_all rfl) ?_
        refine pq_icn hB rfl (fun h9 => ?_) (fun h9 => ?_)
        · rw [h9, cond_true] at hq
          refine pq_s hB 2 (pc' := 96) (L' := [(0, .ref 185), (1, .int a0), (2, .int a1), (3, .int a2)]) (st' := [.int 3, .ref 185]) (I' := I8) (J' := J8) (by with_unfolding_all rfl) ?_
          generalize hc10 : f225_185 I8 J8 3 = q10 at hq
          obtain ⟨v10, _, _⟩ := q10
          dsimp only at hq
          refine pq_1 rfl rfl rfl rfl (f225_185_pq hB hc10) ?_
          rintro _ I10 J10 ⟨rfl, rfl, rfl⟩
          subst hq
          exact pq_2i (x := v10) rfl ⟨_, rfl, rfl⟩
        · rw [h9, cond_false] at hq
          refine pq_s hB 6 (pc' := 87) (L' := [(0, .ref 185), (1, .int a0), (2, .int a1), (3, .int a2)]) (st' := [.int (I8 186 2484), .int 71, .ref 185]) (I' := I8) (J' := J8) (by with_unfolding_all rfl) ?_
          refine pq_1 rfl rfl rfl rfl (pq_le hle (f232_185_pq hB rfl)) ?_
          rintro _ I11 J11 ⟨v11, rfl, hc11⟩
          rw [hc11] at hq
          dsimp only at hq
          refine pq_s hB 1 (pc' := 91) (L' := [(0, .ref 185), (1, .int a0), (2, .int a1), (3, .int a2)]) (st' := [.int (-1), .int v11]) (I' := I11) (J' := J11) (by with_unfolding_all rfl) ?_
          refine pq_icn hB rfl (fun h12 => ?_) (fun h12 => ?_)
          · rw [h12, cond_true] at hq
            refine pq_s hB 13 (pc' := 120) (L' := [(0, .ref 185), (1, .int a0), (2, .int a1), (3, .int a2)]) (st' := [.ref 185, .int ((60 + a2) + (I11 186 ((2480 + a0)).toNatClampNeg)), .ref 187]) (I' := I11) (J' := J11) (by with_unfolding_all rfl) ?_
            refine pq_1 rfl rfl rfl rfl (pq_le hle (f231_185_pq hB rfl)) ?_
            rintro _ I13 J13 ⟨v13, rfl, hc13⟩
            rw [hc13] at hq
            dsimp only at hq
            refine pq_s hB 2 (pc' := 125) (L' := [(0, .ref 185), (1, .int a0), (2, .int a1), (3, .int a2)]) (st' := [.ref 185]) (I' := I13) (J' := (tup J13 187 ((((60 + a2) + (I11 186 ((2480 + a0)).toNatClampNeg))).toNatClampNeg) v13)) (by with_unfolding_all rfl) ?_
            refine pq_1 rfl rfl rfl rfl (pq_le hle (f222_185_pq hB rfl)) ?_
            rintro _ I14 J14 ⟨rfl, hc14⟩
            rw [hc14] at hq
            dsimp only at hq
            refine pq_s hB 1 (pc' := 129) (L' := [(0, .ref 185), (1, .int a0), (2, .int a1), (3, .int a2)]) (st' := [.int 1]) (I' := I14) (J' := J14) (by with_unfolding_all rfl) ?_
            subst hq
            exact pq_2i (x := 1) rfl ⟨_, rfl, rfl⟩
          · rw [h12, cond_false] at hq
            refine pq_s hB 2 (pc' := 96) (L' := [(0, .ref 185), (1, .int a0), (2, .int a1), (3, .int a2)]) (st' := [.int 3, .ref 185]) (I' := I11) (J' := J11) (by with_unfolding_all rfl) ?_
            generalize hc15 : f225_185 I11 J11 3 = q15 at hq
            obtain ⟨v15, _, _⟩ := q15
            dsimp only at hq
            refine pq_1 rfl rfl rfl rfl (f225_185_pq hB hc15) ?_
            rintro _ I15 J15 ⟨rfl, rfl, rfl⟩
            subst hq
            exact pq_2i (x := v15) rfl ⟨_, rfl, rfl⟩
    · rw [h4, cond_false] at hq
      refine pq_s hB 2 (pc' := 36) (L' := [(0, .ref 185), (1, .int a0), (2, .int a1), (3, .int a2)]) (st' := [.int 2, .ref 185]) (I' := I3) (J' := J3) (by with_unfolding_all rfl) ?_
      generalize hc16 : f225_185 I3 J3 2 = q16 at hq
      obtain ⟨v16, _, _⟩ := q16
      dsimp only at hq
      refine pq_1 rfl rfl rfl rfl (f225_185_pq hB hc16) ?_
      rintro _ I16 J16 ⟨rfl, rfl, rfl⟩
      subst hq
      exact pq_2i (x := v16) rfl ⟨_, rfl, rfl⟩
  · rw [h1, cond_false] at hq
    refine pq_s hB 2 (pc' := 17) (L' := [(0, .ref 185), (1, .int a0), (2, .int a1), (3, .int a2)]) (st' := [.int 6, .ref 185]) (I' := I) (J' := J) (by with_unfolding_all rfl) ?_
    generalize hc17 : f225_185 I J 6 = q17 at hq
    obtain ⟨v17, _, _⟩ := q17
    dsimp only at hq
    refine pq_1 rfl rfl rfl rfl (f225_185_pq hB hc17) ?_
    rintro _ I17 J17 ⟨rfl, rfl, rfl⟩
    subst hq
    exact pq_2i (x := v17) rfl ⟨_, rfl, rfl⟩
-- LPModel.isThere
def f235_185 (N : Nat) (I : tI) (J : tJ) (a0 : Int32) : Option (Int32 × tI × tJ) :=
  (match f224_185_1002 N I J with | none => none | some (v1, I1, J1) => bif xcmp .eq v1 a0 then (match f222_185 N I1 J1 with | none => none | some (_, I3, J3) => some (1, I3, J3)) else some (0, I1, J1))
set_option maxRecDepth 100000 in
theorem f235_185_pq {sc : List Int32} {B : xM} {N : Nat} {I : tI} {J : tJ} {a0 : Int32} (hB : kB pT B) : ∀ {X : Option (Int32 × tI × tJ)}, f235_185 N I J a0 = X → pq sc B N (xt_235, 2, 3) 0 [(0, .ref 185), (1, .int a0)] [] I J (fun v I1 J1 => ∃ a, v = some (.int a) ∧ X = some (a, I1, J1)) := by
  intro X hq
  unfold f235_185 at hq
  have hle : N ≤ N := Nat.le_refl N
  refine pq_s hB 2 (pc' := 3) (L' := [(0, .ref 185), (1, .int a0)]) (st' := [.retAddr 2, .ref 185]) (I' := I) (J' := J) (by with_unfolding_all rfl) ?_
  refine pq_1 rfl rfl rfl rfl (pq_le hle (f224_185_1002_pq hB rfl)) ?_
  rintro _ I1 J1 ⟨v1, rfl, hc1⟩
  rw [hc1] at hq
  dsimp only at hq
  refine pq_s hB 1 (pc' := 7) (L' := [(0, .ref 185), (1, .int a0)]) (st' := [.int a0, .int v1]) (I' := I1) (J' := J1) (by with_unfolding_all rfl) ?_
  refine pq_icn hB rfl (fun h2 => ?_) (fun h2 => ?_)
  · rw [h2, cond_true] at hq
    refine pq_s hB 1 (pc' := 13) (L' := [(0, .ref 185), (1, .int a0)]) (st' := [.ref 185]) (I' := I1) (J' := J1) (by with_unfolding_all rfl) ?_
    refine pq_1 rfl rfl rfl rfl (pq_le hle (f222_185_pq hB rfl)) ?_
    rintro _ I3 J3 ⟨rfl, hc3⟩
    rw [hc3] at hq
    dsimp only at hq
    refine pq_s hB 1 (pc' := 17) (L' := [(0, .ref 185), (1, .int a0)]) (st' := [.int 1]) (I' := I3) (J' := J3) (by with_unfolding_all rfl) ?_
    subst hq
    exact pq_2i (x := 1) rfl ⟨_, rfl, rfl⟩
  · rw [h2, cond_false] at hq
    refine pq_s hB 1 (pc' := 11) (L' := [(0, .ref 185), (1, .int a0)]) (st' := [.int 0]) (I' := I1) (J' := J1) (by with_unfolding_all rfl) ?_
    subst hq
    exact pq_2i (x := 0) rfl ⟨_, rfl, rfl⟩
-- LPModel.aPerson, the loop at 140, to [222, 172]
def f240_185_l140 (N : Nat) : Nat → tI → tJ → Int32 → Option (Nat × Int32 × tI × tJ)
  | 0, _, _, _ => none
  | k + 1, I, J, x1 =>
    (match f224_185_1002 N I J with | none => none | some (v18, I18, J18) => bif xcmp .lt v18 0 then some (0, x1, I18, J18) else (match f224_185_1002 N I18 J18 with | none => none | some (v20, I20, J20) => bif xcmp .gt v20 4 then some (0, x1, I20, J20) else bif xcmp .ne (I20 186 ((x1 + 3)).toNatClampNeg) 8 then (match f224_185_1002 N I20 J20 with | none => none | some (v23, I23, J23) => (match f222_185 N (tup (tup I23 186 ((((x1 + 6) + (I20 186 ((x1 + 3)).toNatClampNeg))).toNatClampNeg) v23) 186 (((x1 + 3)).toNatClampNeg) (((tup I23 186 ((((x1 + 6) + (I20 186 ((x1 + 3)).toNatClampNeg))).toNatClampNeg) v23) 186 (((x1 + 3)).toNatClampNeg)) + 1)) J23 with | none => none | some (_, I24, J24) => f240_185_l140 N k I24 J24 x1)) else some (1, x1, I20, J20)))
set_option maxRecDepth 100000 in
theorem f240_185_l140_pq {sc : List Int32} {B : xM} {N : Nat} {P : Option Value → tI → tJ → Prop} (hB : kB pT B) : ∀ (k : Nat), k ≤ N → ∀ (b m : Nat), b ≤ k → b ≤ m → ∀ {I : tI} {J : tJ} {x1 : Int32} {Y : Option (Nat × Int32 × tI × tJ)}, f240_185_l140 N k I J x1 = Y → (∀ {y1 : Int32} {I1 : tI} {J1 : tJ}, Y = some (0, y1, I1, J1) → pq sc B m (xt_240, 2, 3) 222 [(0, .ref 185), (1, .int y1)] [] I1 J1 P) → (∀ {y1 : Int32} {I1 : tI} {J1 : tJ}, Y = some (1, y1, I1, J1) → pq sc B m (xt_240, 2, 3) 172 [(0, .ref 185), (1, .int y1)] [] I1 J1 P) → pq sc B b (xt_240, 2, 3) 140 [(0, .ref 185), (1, .int x1)] [] I J P
  | 0, _, b, _, hb, _, _, _, _, _, _, _, _ => by
    have e : b = 0 := by omega
    subst e
    exact pq_zero
  | _ + 1, _, 0, _, _, _, _, _, _, _, _, _, _ => pq_zero
  | k + 1, hk, b + 1, m, hb, hm, I, J, x1, Y, hq, hx0, hx1 => by
    unfold f240_185_l140 at hq
    have hle : b ≤ N := by omega
    refine pq_s1 hB 1 (pc' := 143) (L' := [(0, .ref 185), (1, .int x1)]) (st' := [.retAddr 2, .ref 185]) (I' := I) (J' := J) (by with_unfolding_all rfl) ?_
    refine pq_1 rfl rfl rfl rfl (pq_le hle (f224_185_1002_pq hB rfl)) ?_
    rintro _ I18 J18 ⟨v18, rfl, hc18⟩
    rw [hc18] at hq
    dsimp only at hq
    refine pq_ifn hB rfl (fun h19 => ?_) (fun h19 => ?_)
    · rw [h19, cond_true] at hq
      exact pq_le (by omega) (hx0 hq.symm)
    · rw [h19, cond_false] at hq
      refine pq_s hB 2 (pc' := 152) (L' := [(0, .ref 185), (1, .int x1)]) (st' := [.retAddr 2, .ref 185]) (I' := I18) (J' := J18) (by with_unfolding_all rfl) ?_
      refine pq_1 rfl rfl rfl rfl (pq_le hle (f224_185_1002_pq hB rfl)) ?_
      rintro _ I20 J20 ⟨v20, rfl, hc20⟩
      rw [hc20] at hq
      dsimp only at hq
      refine pq_s hB 1 (pc' := 156) (L' := [(0, .ref 185), (1, .int x1)]) (st' := [.int 4, .int v20]) (I' := I20) (J' := J20) (by with_unfolding_all rfl) ?_
      refine pq_icn hB rfl (fun h21 => ?_) (fun h21 => ?_)
      · rw [h21, cond_true] at hq
        exact pq_le (by omega) (hx0 hq.symm)
      · rw [h21, cond_false] at hq
        refine pq_s hB 7 (pc' := 169) (L' := [(0, .ref 185), (1, .int x1)]) (st' := [.int 8, .int (I20 186 ((x1 + 3)).toNatClampNeg)]) (I' := I20) (J' := J20) (by with_unfolding_all rfl) ?_
        refine pq_icn hB rfl (fun h22 => ?_) (fun h22 => ?_)
        · rw [h22, cond_true] at hq
          refine pq_s hB 14 (pc' := 199) (L' := [(0, .ref 185), (1, .int x1)]) (st' := [.retAddr 2, .ref 185, .int ((x1 + 6) + (I20 186 ((x1 + 3)).toNatClampNeg)), .ref 186]) (I' := I20) (J' := J20) (by with_unfolding_all rfl) ?_
          refine pq_1 rfl rfl rfl rfl (pq_le hle (f224_185_1002_pq hB rfl)) ?_
          rintro _ I23 J23 ⟨v23, rfl, hc23⟩
          rw [hc23] at hq
          dsimp only at hq
          refine pq_s hB 12 (pc' := 216) (L' := [(0, .ref 185), (1, .int x1)]) (st' := [.ref 185]) (I' := (tup (tup I23 186 ((((x1 + 6) + (I20 186 ((x1 + 3)).toNatClampNeg))).toNatClampNeg) v23) 186 (((x1 + 3)).toNatClampNeg) (((tup I23 186 ((((x1 + 6) + (I20 186 ((x1 + 3)).toNatClampNeg))).toNatClampNeg) v23) 186 (((x1 + 3)).toNatClampNeg)) + 1))) (J' := J23) (by with_unfolding_all rfl) ?_
          refine pq_1 rfl rfl rfl rfl (pq_le hle (f222_185_pq hB rfl)) ?_
          rintro _ I24 J24 ⟨rfl, hc24⟩
          rw [hc24] at hq
          dsimp only at hq
          refine pq_s hB 1 (pc' := 140) (L' := [(0, .ref 185), (1, .int x1)]) (st' := []) (I' := I24) (J' := J24) (by with_unfolding_all rfl) ?_
          exact f240_185_l140_pq hB k (by omega) b m (by omega) (by omega) hq hx0 hx1
        · rw [h22, cond_false] at hq
          exact pq_le (by omega) (hx1 hq.symm)
-- LPModel.aPerson, from 222 on
def f240_185_j222 (N : Nat) (I : tI) (J : tJ) (x1 : Int32) : Option (Int32 × tI × tJ) :=
  bif xcmp .ne ((tup I 186 (((x1 + 5)).toNatClampNeg) (I 186 (x1).toNatClampNeg)) 186 (((x1 + 1)).toNatClampNeg)) 0 then some (1, (tup (tup (tup I 186 (((x1 + 5)).toNatClampNeg) (I 186 (x1).toNatClampNeg)) 186 (((x1 + 4)).toNatClampNeg) 0) 186 2482 (((tup (tup I 186 (((x1 + 5)).toNatClampNeg) (I 186 (x1).toNatClampNeg)) 186 (((x1 + 4)).toNatClampNeg) 0) 186 2482) + 1)), J) else some (1, (tup (tup (tup I 186 (((x1 + 5)).toNatClampNeg) (I 186 (x1).toNatClampNeg)) 186 (((x1 + 4)).toNatClampNeg) 1) 186 2482 (((tup (tup I 186 (((x1 + 5)).toNatClampNeg) (I 186 (x1).toNatClampNeg)) 186 (((x1 + 4)).toNatClampNeg) 1) 186 2482) + 1)), J)
set_option maxRecDepth 100000 in
theorem f240_185_j222_pq {sc : List Int32} {B : xM} {N : Nat} {I : tI} {J : tJ} {x1 : Int32} (hB : kB pT B) : ∀ {X : Option (Int32 × tI × tJ)}, f240_185_j222 N I J x1 = X → pq sc B N (xt_240, 2, 3) 222 [(0, .ref 185), (1, .int x1)] [] I J (fun v I1 J1 => ∃ a, v = some (.int a) ∧ X = some (a, I1, J1)) := by
  intro X hq
  unfold f240_185_j222 at hq
  have hle : N ≤ N := Nat.le_refl N
  refine pq_s hB 21 (pc' := 251) (L' := [(0, .ref 185), (1, .int x1)]) (st' := [.int ((tup I 186 (((x1 + 5)).toNatClampNeg) (I 186 (x1).toNatClampNeg)) 186 (((x1 + 1)).toNatClampNeg)), .int (x1 + 4), .ref 186]) (I' := (tup I 186 (((x1 + 5)).toNatClampNeg) (I 186 (x1).toNatClampNeg))) (J' := J) (by with_unfolding_all rfl) ?_
  refine pq_ifn hB rfl (fun h19 => ?_) (fun h19 => ?_)
  · rw [h19, cond_true] at hq
    refine pq_s hB 11 (pc' := 273) (L' := [(0, .ref 185), (1, .int x1)]) (st' := [.int 1]) (I' := (tup (tup (tup I 186 (((x1 + 5)).toNatClampNeg) (I 186 (x1).toNatClampNeg)) 186 (((x1 + 4)).toNatClampNeg) 0) 186 2482 (((tup (tup I 186 (((x1 + 5)).toNatClampNeg) (I 186 (x1).toNatClampNeg)) 186 (((x1 + 4)).toNatClampNeg) 0) 186 2482) + 1))) (J' := J) (by with_unfolding_all rfl) ?_
    subst hq
    exact pq_2i (x := 1) rfl ⟨_, rfl, rfl⟩
  · rw [h19, cond_false] at hq
    refine pq_s hB 12 (pc' := 273) (L' := [(0, .ref 185), (1, .int x1)]) (st' := [.int 1]) (I' := (tup (tup (tup I 186 (((x1 + 5)).toNatClampNeg) (I 186 (x1).toNatClampNeg)) 186 (((x1 + 4)).toNatClampNeg) 1) 186 2482 (((tup (tup I 186 (((x1 + 5)).toNatClampNeg) (I 186 (x1).toNatClampNeg)) 186 (((x1 + 4)).toNatClampNeg) 1) 186 2482) + 1))) (J' := J) (by with_unfolding_all rfl) ?_
    subst hq
    exact pq_2i (x := 1) rfl ⟨_, rfl, rfl⟩
-- LPModel.aPerson, from 102 on
def f240_185_j102 (N : Nat) (I : tI) (J : tJ) (x1 : Int32) : Option (Int32 × tI × tJ) :=
  (match f228_185_1002 N I J 16 with | none => none | some (v11, I11, J11) => bif xcmp .ne v11 0 then (match f224_185_1002 N I11 J11 with | none => none | some (v13, I13, J13) => bif xcmp .gt v13 4 then (match f225_185 I13 J13 2 with | (v15, I15, J15) => some (v15, I15, J15)) else (match f224_185_1002 N I13 J13 with | none => none | some (v16, I16, J16) => bif xcmp .ge v16 0 then (match f240_185_l140 N N I16 J16 x1 with | none => none | some (k18, y18_1, I18, J18) => bif Nat.beq k18 0 then (f240_185_j222 N I18 J18 y18_1) else (match f225_185 I18 J18 6 with | (v19, I19, J19) => some (v19, I19, J19))) else (match f225_185 I16 J16 2 with | (v20, I20, J20) => some (v20, I20, J20)))) else some (0, I11, J11))
set_option maxRecDepth 100000 in
theorem f240_185_j102_pq {sc : List Int32} {B : xM} {N : Nat} {I : tI} {J : tJ} {x1 : Int32} (hB : kB pT B) : ∀ {X : Option (Int32 × tI × tJ)}, f240_185_j102 N I J x1 = X → pq sc B N (xt_240, 2, 3) 102 [(0, .ref 185), (1, .int x1)] [] I J (fun v I1 J1 => ∃ a, v = some (.int a) ∧ X = some (a, I1, J1)) := by
  intro X hq
  unfold f240_185_j102 at hq
  have hle : N ≤ N := Nat.le_refl N
  refine pq_s hB 3 (pc' := 107) (L' := [(0, .ref 185), (1, .int x1)]) (st' := [.int 16, .retAddr 2, .ref 185]) (I' := I) (J' := J) (by with_unfolding_all rfl) ?_
  refine pq_1 rfl rfl rfl rfl (pq_le hle (f228_185_1002_pq hB rfl)) ?_
  rintro _ I11 J11 ⟨v11, rfl, hc11⟩
  rw [hc11] at hq
  dsimp only at hq
  refine pq_ifn hB rfl (fun h12 => ?_) (fun h12 => ?_)
  · rw [h12, cond_true] at hq
    refine pq_s hB 2 (pc' := 118) (L' := [(0, .ref 185), (1, .int x1)]) (st' := [.retAddr 2, .ref 185]) (I' := I11) (J' := J11) (by with_unfolding_all rfl) ?_
    refine pq_1 rfl rfl rfl rfl (pq_le hle (f224_185_1002_pq hB rfl)) ?_
    rintro _ I13 J13 ⟨v13, rfl, hc13⟩
    rw [hc13] at hq
    dsimp only at hq
    refine pq_s hB 1 (pc' := 122) (L' := [(0, .ref 185), (1, .int x1)]) (st' := [.int 4, .int v13]) (I' := I13) (J' := J13) (by with_unfolding_all rfl) ?_
    refine pq_icn hB rfl (fun h14 => ?_) (fun h14 => ?_)
    · rw [h14, cond_true] at hq
      refine pq_s hB 2 (pc' := 136) (L' := [(0, .ref 185), (1, .int x1)]) (st' := [.int 2, .ref 185]) (I' := I13) (J' := J13) (by with_unfolding_all rfl) ?_
      generalize hc15 : f225_185 I13 J13 2 = q15 at hq
      obtain ⟨v15, _, _⟩ := q15
      dsimp only at hq
      refine pq_1 rfl rfl rfl rfl (f225_185_pq hB hc15) ?_
      rintro _ I15 J15 ⟨rfl, rfl, rfl⟩
      subst hq
      exact pq_2i (x := v15) rfl ⟨_, rfl, rfl⟩
    · rw [h14, cond_false] at hq
      refine pq_s hB 2 (pc' := 128) (L' := [(0, .ref 185), (1, .int x1)]) (st' := [.retAddr 2, .ref 185]) (I' := I13) (J' := J13) (by with_unfolding_all rfl) ?_
      refine pq_1 rfl rfl rfl rfl (pq_le hle (f224_185_1002_pq hB rfl)) ?_
      rintro _ I16 J16 ⟨v16, rfl, hc16⟩
      rw [hc16] at hq
      dsimp only at hq
      refine pq_ifn hB rfl (fun h17 => ?_) (fun h17 => ?_)
      · rw [h17, cond_true] at hq
        refine f240_185_l140_pq hB N (Nat.le_refl N) N N hle (Nat.le_refl N) rfl ?_ ?_
        ·
          intro y18_1 I18 J18 hc18
          rw [hc18] at hq
          dsimp only at hq
          rw [show Nat.beq 0 0 = true from rfl, cond_true] at hq
          exact f240_185_j222_pq hB hq
        ·
          intro y18_1 I18 J18 hc18
          rw [hc18] at hq
          dsimp only at hq
          rw [show Nat.beq 1 0 = false from rfl, cond_false] at hq
          refine pq_s hB 2 (pc' := 175) (L' := [(0, .ref 185), (1, .int y18_1)]) (st' := [.int 6, .ref 185]) (I' := I18) (J' := J18) (by with_unfolding_all rfl) ?_
          generalize hc19 : f225_185 I18 J18 6 = q19 at hq
          obtain ⟨v19, _, _⟩ := q19
          dsimp only at hq
          refine pq_1 rfl rfl rfl rfl (f225_185_pq hB hc19) ?_
          rintro _ I19 J19 ⟨rfl, rfl, rfl⟩
          subst hq
          exact pq_2i (x := v19) rfl ⟨_, rfl, rfl⟩
      · rw [h17, cond_false] at hq
        refine pq_s hB 2 (pc' := 136) (L' := [(0, .ref 185), (1, .int x1)]) (st' := [.int 2, .ref 185]) (I' := I16) (J' := J16) (by with_unfolding_all rfl) ?_
        generalize hc20 : f225_185 I16 J16 2 = q20 at hq
        obtain ⟨v20, _, _⟩ := q20
        dsimp only at hq
        refine pq_1 rfl rfl rfl rfl (f225_185_pq hB hc20) ?_
        rintro _ I20 J20 ⟨rfl, rfl, rfl⟩
        subst hq
        exact pq_2i (x := v20) rfl ⟨_, rfl, rfl⟩
  · rw [h12, cond_false] at hq
    refine pq_s hB 1 (pc' := 114) (L' := [(0, .ref 185), (1, .int x1)]) (st' := [.int 0]) (I' := I11) (J' := J11) (by with_unfolding_all rfl) ?_
    subst hq
    exact pq_2i (x := 0) rfl ⟨_, rfl, rfl⟩
-- LPModel.aPerson, from 79 on
def f240_185_j79 (N : Nat) (I : tI) (J : tJ) (x1 : Int32) : Option (Int32 × tI × tJ) :=
  (match f235_185 N I J 15 with | none => none | some (v9, I9, J9) => bif xcmp .eq v9 0 then f240_185_j102 N I9 J9 x1 else (match f229_185 N I9 J9 (x1 + 2) 1 999 with | none => none | some (v11, I11, J11) => bif xcmp .eq v11 0 then some (0, I11, J11) else f240_185_j102 N I11 J11 x1))
set_option maxRecDepth 100000 in
theorem f240_185_j79_pq {sc : List Int32} {B : xM} {N : Nat} {I : tI} {J : tJ} {x1 : Int32} (hB : kB pT B) : ∀ {X : Option (Int32 × tI × tJ)}, f240_185_j79 N I J x1 = X → pq sc B N (xt_240, 2, 3) 79 [(0, .ref 185), (1, .int x1)] [] I J (fun v I1 J1 => ∃ a, v = some (.int a) ∧ X = some (a, I1, J1)) := by
  intro X hq
  unfold f240_185_j79 at hq
  have hle : N ≤ N := Nat.le_refl N
  refine pq_s hB 2 (pc' := 82) (L' := [(0, .ref 185), (1, .int x1)]) (st' := [.int 15, .ref 185]) (I' := I) (J' := J) (by with_unfolding_all rfl) ?_
  refine pq_1 rfl rfl rfl rfl (pq_le hle (f235_185_pq hB rfl)) ?_
  rintro _ I9 J9 ⟨v9, rfl, hc9⟩
  rw [hc9] at hq
  dsimp only at hq
  refine pq_ifn hB rfl (fun h10 => ?_) (fun h10 => ?_)
  · rw [h10, cond_true] at hq
    exact f240_185_j102_pq hB hq
  · rw [h10, cond_false] at hq
    refine pq_s hB 6 (pc' := 96) (L' := [(0, .ref 185), (1, .int x1)]) (st' := [.int 999, .int 1, .int (x1 + 2), .ref 185]) (I' := I9) (J' := J9) (by with_unfolding_all rfl) ?_
    refine pq_1 rfl rfl rfl rfl (pq_le hle (f229_185_pq hB rfl)) ?_
    rintro _ I11 J11 ⟨v11, rfl, hc11⟩
    rw [hc11] at hq
    dsimp only at hq
    refine pq_ifn hB rfl (fun h12 => ?_) (fun h12 => ?_)
    · rw [h12, cond_true] at hq
      refine pq_s hB 1 (pc' := 114) (L' := [(0, .ref 185), (1, .int x1)]) (st' := [.int 0]) (I' := I11) (J' := J11) (by with_unfolding_all rfl) ?_
      subst hq
      exact pq_2i (x := 0) rfl ⟨_, rfl, rfl⟩
    · rw [h12, cond_false] at hq
      exact f240_185_j102_pq hB hq
-- LPModel.aPerson
def f240_185 (N : Nat) (I : tI) (J : tJ) : Option (Int32 × tI × tJ) :=
  (match f236_185 N I J 2 5 0 with | none => none | some (v1, I1, J1) => bif xcmp .eq v1 0 then some (0, I1, J1) else (match f228_185_1002 N I1 J1 13 with | none => none | some (v3, I3, J3) => bif xcmp .eq v3 0 then some (0, I3, J3) else (match f238_185 N I3 J3 (2520 + (14 * (I 186 2482))) 1 with | none => none | some (v5, I5, J5) => bif xcmp .ne v5 0 then (match f235_185 N (tup I5 186 ((((2520 + (14 * (I 186 2482))) + 2)).toNatClampNeg) (-1)) J5 14 with | none => none | some (v7, I7, J7) => bif xcmp .eq v7 0 then f240_185_j79 N I7 J7 (2520 + (14 * (I 186 2482))) else (match f229_185 N I7 J7 ((2520 + (14 * (I 186 2482))) + 1) 0 99 with | none => none | some (v9, I9, J9) => bif xcmp .eq v9 0 then some (0, I9, J9) else f240_185_j79 N I9 J9 (2520 + (14 * (I 186 2482))))) else some (0, I5, J5))))
set_option maxRecDepth 100000 in
theorem f240_185_pq {sc : List Int32} {B : xM} {N : Nat} {I : tI} {J : tJ} (hB : kB pT B) : ∀ {X : Option (Int32 × tI × tJ)}, f240_185 N I J = X → pq sc B N (xt_240, 2, 3) 0 [(0, .ref 185)] [] I J (fun v I1 J1 => ∃ a, v = some (.int a) ∧ X = some (a, I1, J1)) := by
  intro X hq
  unfold f240_185 at hq
  have hle : N ≤ N := Nat.le_refl N
  refine pq_s hB 13 (pc' := 20) (L' := [(1, .int (2520 + (14 * (I 186 2482)))), (0, .ref 185)]) (st' := [.int 0, .int 5, .int 2, .ref 185]) (I' := I) (J' := J) (by with_unfolding_all rfl) ?_
  refine pq_1 rfl rfl rfl rfl (pq_le hle (f236_185_pq hB rfl)) ?_
  rintro _ I1 J1 ⟨v1, rfl, hc1⟩
  rw [hc1] at hq
  dsimp only at hq
  refine pq_ifn hB rfl (fun h2 => ?_) (fun h2 => ?_)
  · rw [h2, cond_true] at hq
    refine pq_s hB 1 (pc' := 47) (L' := [(1, .int (2520 + (14 * (I 186 2482)))), (0, .ref 185)]) (st' := [.int 0]) (I' := I1) (J' := J1) (by with_unfolding_all rfl) ?_
    subst hq
    exact pq_2i (x := 0) rfl ⟨_, rfl, rfl⟩
  · rw [h2, cond_false] at hq
    refine pq_s hB 3 (pc' := 31) (L' := [(1, .int (2520 + (14 * (I 186 2482)))), (0, .ref 185)]) (st' := [.int 13, .retAddr 2, .ref 185]) (I' := I1) (J' := J1) (by with_unfolding_all rfl) ?_
    refine pq_1 rfl rfl rfl rfl (pq_le hle (f228_185_1002_pq hB rfl)) ?_
    rintro _ I3 J3 ⟨v3, rfl, hc3⟩
    rw [hc3] at hq
    dsimp only at hq
    refine pq_ifn hB rfl (fun h4 => ?_) (fun h4 => ?_)
    · rw [h4, cond_true] at hq
      refine pq_s hB 1 (pc' := 47) (L' := [(1, .int (2520 + (14 * (I 186 2482)))), (0, .ref 185)]) (st' := [.int 0]) (I' := I3) (J' := J3) (by with_unfolding_all rfl) ?_
      subst hq
      exact pq_2i (x := 0) rfl ⟨_, rfl, rfl⟩
    · rw [h4, cond_false] at hq
      refine pq_s hB 3 (pc' := 40) (L' := [(1, .int (2520 + (14 * (I 186 2482)))), (0, .ref 185)]) (st' := [.int 1, .int (2520 + (14 * (I 186 2482))), .ref 185]) (I' := I3) (J' := J3) (by with_unfolding_all rfl) ?_
      refine pq_1 rfl rfl rfl rfl (pq_le hle (f238_185_pq hB rfl)) ?_
      rintro _ I5 J5 ⟨v5, rfl, hc5⟩
      rw [hc5] at hq
      dsimp only at hq
      refine pq_ifn hB rfl (fun h6 => ?_) (fun h6 => ?_)
      · rw [h6, cond_true] at hq
        refine pq_s hB 9 (pc' := 60) (L' := [(1, .int (2520 + (14 * (I 186 2482)))), (0, .ref 185)]) (st' := [.int 14, .ref 185]) (I' := (tup I5 186 ((((2520 + (14 * (I 186 2482))) + 2)).toNatClampNeg) (-1))) (J' := J5) (by with_unfolding_all rfl) ?_
        refine pq_1 rfl rfl rfl rfl (pq_le hle (f235_185_pq hB rfl)) ?_
        rintro _ I7 J7 ⟨v7, rfl, hc7⟩
        rw [hc7] at hq
        dsimp only at hq
        refine pq_ifn hB rfl (fun h8 => ?_) (fun h8 => ?_)
        · rw [h8, cond_true] at hq
          refine pq_perm (L := [(0, .ref 185), (1, .int (2520 + (14 * (I 186 2482))))]) (leqn_of ⟨rfl, rfl, trivial⟩ ⟨rfl, rfl, trivial⟩ ⟨rfl, rfl, trivial⟩) ?_
          exact f240_185_j79_pq hB hq
        · rw [h8, cond_false] at hq
          refine pq_s hB 6 (pc' := 73) (L' := [(1, .int (2520 + (14 * (I 186 2482)))), (0, .ref 185)]) (st' := [.int 99, .int 0, .int ((2520 + (14 * (I 186 2482))) + 1), .ref 185]) (I' := I7) (J' := J7) (by with_unfolding_all rfl) ?_
          refine pq_1 rfl rfl rfl rfl (pq_le hle (f229_185_pq hB rfl)) ?_
          rintro _ I9 J9 ⟨v9, rfl, hc9⟩
          rw [hc9] at hq
          dsimp only at hq
          refine pq_ifn hB rfl (fun h10 => ?_) (fun h10 => ?_)
          · rw [h10, cond_true] at hq
            refine pq_s hB 1 (pc' := 114) (L' := [(1, .int (2520 + (14 * (I 186 2482)))), (0, .ref 185)]) (st' := [.int 0]) (I' := I9) (J' := J9) (by with_unfolding_all rfl) ?_
            subst hq
            exact pq_2i (x := 0) rfl ⟨_, rfl, rfl⟩
          · rw [h10, cond_false] at hq
            refine pq_perm (L := [(0, .ref 185), (1, .int (2520 + (14 * (I 186 2482))))]) (leqn_of ⟨rfl, rfl, trivial⟩ ⟨rfl, rfl, trivial⟩ ⟨rfl, rfl, trivial⟩) ?_
            exact f240_185_j79_pq hB hq
      · rw [h6, cond_false] at hq
        refine pq_s hB 1 (pc' := 47) (L' := [(1, .int (2520 + (14 * (I 186 2482)))), (0, .ref 185)]) (st' := [.int 0]) (I' := I5) (J' := J5) (by with_unfolding_all rfl) ?_
        subst hq
        exact pq_2i (x := 0) rfl ⟨_, rfl, rfl⟩
-- LPModel.aSight, from 176 on
def f241_185_j176 (N : Nat) (I : tI) (J : tJ) : Option (Int32 × tI × tJ) :=
  some (1, (tup I 186 2483 ((I 186 2483) + 1)), J)
set_option maxRecDepth 100000 in
theorem f241_185_j176_pq {sc : List Int32} {B : xM} {N : Nat} {I : tI} {J : tJ} (hB : kB pT B) : ∀ {X : Option (Int32 × tI × tJ)}, f241_185_j176 N I J = X → pq sc B N (xt_241, 2, 3) 176 [(0, .ref 185)] [] I J (fun v I1 J1 => ∃ a, v = some (.int a) ∧ X = some (a, I1, J1)) := by
  intro X hq
  unfold f241_185_j176 at hq
  have hle : N ≤ N := Nat.le_refl N
  refine pq_s hB 9 (pc' := 189) (L' := [(0, .ref 185)]) (st' := [.int 1]) (I' := (tup I 186 2483 ((I 186 2483) + 1))) (J' := J) (by with_unfolding_all rfl) ?_
  subst hq
  exact pq_2i (x := 1) rfl ⟨_, rfl, rfl⟩
-- LPModel.personTo
def f237_185 (N : Nat) (I : tI) (J : tJ) (a0 : Int32) : Option (Int32 × tI × tJ) :=
  (match f230_185_1002 N I J with | none => none | some (v1, I1, J1) => bif xcmp .ne v1 0 then (match f232_185 N I1 J1 60 (I1 186 2482) with | none => none | some (v3, I3, J3) => bif xcmp .ne ((tup I3 186 ((a0).toNatClampNeg) v3) 186 ((a0).toNatClampNeg)) (-1) then (match f222_185 N (tup I3 186 ((a0).toNatClampNeg) v3) J3 with | none => none | some (_, I5, J5) => some (1, I5, J5)) else (match f225_185 (tup I3 186 ((a0).toNatClampNeg) v3) J3 3 with | (v6, I6, J6) => some (v6, I6, J6))) else (match f225_185 I1 J1 2 with | (v7, I7, J7) => some (v7, I7, J7)))
set_option maxRecDepth 100000 in
theorem f237_185_pq {sc : List Int32} {B : xM} {N : Nat} {I : tI} {J : tJ} {a0 : Int32} (hB : kB pT B) : ∀ {X : Option (Int32 × tI × tJ)}, f237_185 N I J a0 = X → pq sc B N (xt_237, 2, 3) 0 [(0, .ref 185), (1, .int a0)] [] I J (fun v I1 J1 => ∃ a, v = some (.int a) ∧ X = some (a, I1, J1)) := by
  intro X hq
  unfold f237_185 at hq
  have hle : N ≤ N := Nat.le_refl N
  refine pq_s hB 2 (pc' := 3) (L' := [(0, .ref 185), (1, .int a0)]) (st' := [.retAddr 2, .ref 185]) (I' := I) (J' := J) (by with_unfolding_all rfl) ?_
  refine pq_1 rfl rfl rfl rfl (pq_le hle (f230_185_1002_pq hB rfl)) ?_
  rintro _ I1 J1 ⟨v1, rfl, hc1⟩
  rw [hc1] at hq
  dsimp only at hq
  refine pq_ifn hB rfl (fun h2 => ?_) (fun h2 => ?_)
  · rw [h2, cond_true] at hq
    refine pq_s hB 9 (pc' := 31) (L' := [(0, .ref 185), (1, .int a0)]) (st' := [.int (I1 186 2482), .int 60, .ref 185, .int a0, .ref 186]) (I' := I1) (J' := J1) (by with_unfolding_all rfl) ?_
    refine pq_1 rfl rfl rfl rfl (pq_le hle (f232_185_pq hB rfl)) ?_
    rintro _ I3 J3 ⟨v3, rfl, hc3⟩
    rw [hc3] at hq
    dsimp only at hq
    refine pq_s hB 6 (pc' := 42) (L' := [(0, .ref 185), (1, .int a0)]) (st' := [.int (-1), .int ((tup I3 186 ((a0).toNatClampNeg) v3) 186 ((a0).toNatClampNeg))]) (I' := (tup I3 186 ((a0).toNatClampNeg) v3)) (J' := J3) (by with_unfolding_all rfl) ?_
    refine pq_icn hB rfl (fun h4 => ?_) (fun h4 => ?_)
    · rw [h4, cond_true] at hq
      refine pq_s hB 1 (pc' := 52) (L' := [(0, .ref 185), (1, .int a0)]) (st' := [.ref 185]) (I' := (tup I3 186 ((a0).toNatClampNeg) v3)) (J' := J3) (by with_unfolding_all rfl) ?_
      refine pq_1 rfl rfl rfl rfl (pq_le hle (f222_185_pq hB rfl)) ?_
      rintro _ I5 J5 ⟨rfl, hc5⟩
      rw [hc5] at hq
      dsimp only at hq
      refine pq_s hB 1 (pc' := 56) (L' := [(0, .ref 185), (1, .int a0)]) (st' := [.int 1]) (I' := I5) (J' := J5) (by with_unfolding_all rfl) ?_
      subst hq
      exact pq_2i (x := 1) rfl ⟨_, rfl, rfl⟩
    · rw [h4, cond_false] at hq
      refine pq_s hB 2 (pc' := 47) (L' := [(0, .ref 185), (1, .int a0)]) (st' := [.int 3, .ref 185]) (I' := (tup I3 186 ((a0).toNatClampNeg) v3)) (J' := J3) (by with_unfolding_all rfl) ?_
      generalize hc6 : f225_185 (tup I3 186 ((a0).toNatClampNeg) v3) J3 3 = q6 at hq
      obtain ⟨v6, _, _⟩ := q6
      dsimp only at hq
      refine pq_1 rfl rfl rfl rfl (f225_185_pq hB hc6) ?_
      rintro _ I6 J6 ⟨rfl, rfl, rfl⟩
      subst hq
      exact pq_2i (x := v6) rfl ⟨_, rfl, rfl⟩
  · rw [h2, cond_false] at hq
    refine pq_s hB 2 (pc' := 11) (L' := [(0, .ref 185), (1, .int a0)]) (st' := [.int 2, .ref 185]) (I' := I1) (J' := J1) (by with_unfolding_all rfl) ?_
    generalize hc7 : f225_185 I1 J1 2 = q7 at hq
    obtain ⟨v7, _, _⟩ := q7
    dsimp only at hq
    refine pq_1 rfl rfl rfl rfl (f225_185_pq hB hc7) ?_
    rintro _ I7 J7 ⟨rfl, rfl, rfl⟩
    subst hq
    exact pq_2i (x := v7) rfl ⟨_, rfl, rfl⟩
-- LPModel.aSight, from 164 on
def f241_185_j164 (N : Nat) (I : tI) (J : tJ) (x1 : Int32) : Option (Int32 × tI × tJ) :=
  (match f237_185 N I J (x1 + 2) with | none => none | some (v17, I17, J17) => bif xcmp .ne v17 0 then f241_185_j176 N I17 J17 else some (0, I17, J17))
set_option maxRecDepth 100000 in
theorem f241_185_j164_pq {sc : List Int32} {B : xM} {N : Nat} {I : tI} {J : tJ} {x1 : Int32} (hB : kB pT B) : ∀ {X : Option (Int32 × tI × tJ)}, f241_185_j164 N I J x1 = X → pq sc B N (xt_241, 2, 3) 164 [(0, .ref 185), (1, .int x1)] [] I J (fun v I1 J1 => ∃ a, v = some (.int a) ∧ X = some (a, I1, J1)) := by
  intro X hq
  unfold f241_185_j164 at hq
  have hle : N ≤ N := Nat.le_refl N
  refine pq_s hB 4 (pc' := 168) (L' := [(0, .ref 185), (1, .int x1)]) (st' := [.int (x1 + 2), .ref 185]) (I' := I) (J' := J) (by with_unfolding_all rfl) ?_
  refine pq_1 rfl rfl rfl rfl (pq_le hle (f237_185_pq hB rfl)) ?_
  rintro _ I17 J17 ⟨v17, rfl, hc17⟩
  rw [hc17] at hq
  dsimp only at hq
  refine pq_ifn hB rfl (fun h18 => ?_) (fun h18 => ?_)
  · rw [h18, cond_true] at hq
    refine pq_perm (L := [(0, .ref 185)]) (leqn_of ⟨rfl, trivial⟩ ⟨rfl, trivial⟩ ⟨rfl, rfl, trivial⟩) ?_
    exact f241_185_j176_pq hB hq
  · rw [h18, cond_false] at hq
    refine pq_s hB 1 (pc' := 175) (L' := [(0, .ref 185), (1, .int x1)]) (st' := [.int 0]) (I' := I17) (J' := J17) (by with_unfolding_all rfl) ?_
    subst hq
    exact pq_2i (x := 0) rfl ⟨_, rfl, rfl⟩
-- LPModel.aSight
def f241_185 (N : Nat) (I : tI) (J : tJ) : Option (Int32 × tI × tJ) :=
  (match f236_185 N I J 3 6 5 with | none => none | some (v1, I1, J1) => bif xcmp .ne v1 0 then (match f235_185 N (tup I1 186 (((2590 + (3 * (I 186 2483)))).toNatClampNeg) 2) J1 19 with | none => none | some (v3, I3, J3) => bif xcmp .ne v3 0 then f241_185_j176 N I3 J3 else (match f228_185_1002 N I3 J3 17 with | none => none | some (v5, I5, J5) => bif xcmp .eq v5 0 then some (0, I5, J5) else (match f237_185 N I5 J5 ((2590 + (3 * (I 186 2483))) + 1) with | none => none | some (v7, I7, J7) => bif xcmp .ne v7 0 then (match f224_185_1002 N I7 J7 with | none => none | some (v9, I9, J9) => bif xcmp .ne v9 13 then (match f235_185 N (tup I9 186 (((2590 + (3 * (I 186 2483)))).toNatClampNeg) 1) J9 13 with | none => none | some (v11, I11, J11) => bif xcmp .eq v11 0 then (match f228_185_1002 N I11 J11 18 with | none => none | some (v13, I13, J13) => bif xcmp .ne v13 0 then (match f230_185_1002 N I13 J13 with | none => none | some (v15, I15, J15) => bif xcmp .eq v15 0 then f241_185_j164 N I15 J15 (2590 + (3 * (I 186 2483))) else (match f232_185 N I15 J15 60 (I15 186 2482) with | none => none | some (v17, I17, J17) => bif xcmp .ne v17 (I17 186 (((2590 + (3 * (I 186 2483))) + 1)).toNatClampNeg) then f241_185_j164 N I17 J17 (2590 + (3 * (I 186 2483))) else (match f225_185 I17 J17 5 with | (v19, I19, J19) => some (v19, I19, J19)))) else some (0, I13, J13)) else (match f238_185 N I11 J11 ((2590 + (3 * (I 186 2483))) + 2) 0 with | none => none | some (v20, I20, J20) => bif xcmp .ne v20 0 then f241_185_j176 N I20 J20 else some (0, I20, J20))) else (match f235_185 N (tup I9 186 (((2590 + (3 * (I 186 2483)))).toNatClampNeg) 0) J9 13 with | none => none | some (v22, I22, J22) => bif xcmp .eq v22 0 then (match f228_185_1002 N I22 J22 18 with | none => none | some (v24, I24, J24) => bif xcmp .ne v24 0 then (match f230_185_1002 N I24 J24 with | none => none | some (v26, I26, J26) => bif xcmp .eq v26 0 then f241_185_j164 N I26 J26 (2590 + (3 * (I 186 2483))) else (match f232_185 N I26 J26 60 (I26 186 2482) with | none => none | some (v28, I28, J28) => bif xcmp .ne v28 (I28 186 (((2590 + (3 * (I 186 2483))) + 1)).toNatClampNeg) then f241_185_j164 N I28 J28 (2590 + (3 * (I 186 2483))) else (match f225_185 I28 J28 5 with | (v30, I30, J30) => some (v30, I30, J30)))) else some (0, I24, J24)) else (match f238_185 N I22 J22 ((2590 + (3 * (I 186 2483))) + 2) 0 with | none => none | some (v31, I31, J31) => bif xcmp .ne v31 0 then f241_185_j176 N I31 J31 else some (0, I31, J31)))) else some (0, I7, J7)))) else some (0, I1, J1))
set_option maxRecDepth 100000 in
theorem f241_185_pq {sc : List Int32} {B : xM} {N : Nat} {I : tI} {J : tJ} (hB : kB pT B) : ∀ {X : Option (Int32 × tI × tJ)}, f241_185 N I J = X → pq sc B N (xt_241, 2, 3) 0 [(0, .ref 185)] [] I J (fun v I1 J1 => ∃ a, v = some (.int a) ∧ X = some (a, I1, J1)) := by
  intro X hq
  unfold f241_185 at hq
  have hle : N ≤ N := Nat.le_refl N
  refine pq_s hB 13 (pc' := 20) (L' := [(1, .int (2590 + (3 * (I 186 2483)))), (0, .ref 185)]) (st' := [.int 5, .int 6, .int 3, .ref 185]) (I' := I) (J' := J) (by with_unfolding_all rfl) ?_
  refine pq_1 rfl rfl rfl rfl (pq_le hle (f236_185_pq hB rfl)) ?_
  rintro _ I1 J1 ⟨v1, rfl, hc1⟩
  rw [hc1] at hq
  dsimp only at hq
  refine pq_ifn hB rfl (fun h2 => ?_) (fun h2 => ?_)
  · rw [h2, cond_true] at hq
    refine pq_s hB 7 (pc' := 38) (L' := [(1, .int (2590 + (3 * (I 186 2483)))), (0, .ref 185)]) (st' := [.int 19, .ref 185]) (I' := (tup I1 186 (((2590 + (3 * (I 186 2483)))).toNatClampNeg) 2)) (J' := J1) (by with_unfolding_all rfl) ?_
    refine pq_1 rfl rfl rfl rfl (pq_le hle (f235_185_pq hB rfl)) ?_
    rintro _ I3 J3 ⟨v3, rfl, hc3⟩
    rw [hc3] at hq
    dsimp only at hq
    refine pq_ifn hB rfl (fun h4 => ?_) (fun h4 => ?_)
    · rw [h4, cond_true] at hq
      refine pq_perm (L := [(0, .ref 185)]) (leqn_of ⟨rfl, trivial⟩ ⟨rfl, trivial⟩ ⟨rfl, rfl, trivial⟩) ?_
      exact f241_185_j176_pq hB hq
    · rw [h4, cond_false] at hq
      refine pq_s hB 3 (pc' := 49) (L' := [(1, .int (2590 + (3 * (I 186 2483)))), (0, .ref 185)]) (st' := [.int 17, .retAddr 2, .ref 185]) (I' := I3) (J' := J3) (by with_unfolding_all rfl) ?_
      refine pq_1 rfl rfl rfl rfl (pq_le hle (f228_185_1002_pq hB rfl)) ?_
      rintro _ I5 J5 ⟨v5, rfl, hc5⟩
      rw [hc5] at hq
      dsimp only at hq
      refine pq_ifn hB rfl (fun h6 => ?_) (fun h6 => ?_)
      · rw [h6, cond_true] at hq
        refine pq_s hB 1 (pc' := 66) (L' := [(1, .int (2590 + (3 * (I 186 2483)))), (0, .ref 185)]) (st' := [.int 0]) (I' := I5) (J' := J5) (by with_unfolding_all rfl) ?_
        subst hq
        exact pq_2i (x := 0) rfl ⟨_, rfl, rfl⟩
      · rw [h6, cond_false] at hq
        refine pq_s hB 4 (pc' := 59) (L' := [(1, .int (2590 + (3 * (I 186 2483)))), (0, .ref 185)]) (st' := [.int ((2590 + (3 * (I 186 2483))) + 1), .ref 185]) (I' := I5) (J' := J5) (by with_unfolding_all rfl) ?_
        refine pq_1 rfl rfl rfl rfl (pq_le hle (f237_185_pq hB rfl)) ?_
        rintro _ I7 J7 ⟨v7, rfl, hc7⟩
        rw [hc7] at hq
        dsimp only at hq
        refine pq_ifn hB rfl (fun h8 => ?_) (fun h8 => ?_)
        · rw [h8, cond_true] at hq
          refine pq_s hB 5 (pc' := 75) (L' := [(1, .int (2590 + (3 * (I 186 2483)))), (0, .ref 185)]) (st' := [.retAddr 2, .ref 185, .int (2590 + (3 * (I 186 2483))), .ref 186]) (I' := I7) (J' := J7) (by with_unfolding_all rfl) ?_
          refine pq_1 rfl rfl rfl rfl (pq_le hle (f224_185_1002_pq hB rfl)) ?_
          rintro _ I9 J9 ⟨v9, rfl, hc9⟩
          rw [hc9] at hq
          dsimp only at hq
          refine pq_s hB 1 (pc' := 80) (L' := [(1, .int (2590 + (3 * (I 186 2483)))), (0, .ref 185)]) (st' := [.int 13, .int v9, .int (2590 + (3 * (I 186 2483))), .ref 186]) (I' := I9) (J' := J9) (by with_unfolding_all rfl) ?_
          refine pq_icn hB rfl (fun h10 => ?_) (fun h10 => ?_)
          · rw [h10, cond_true] at hq
            refine pq_s hB 4 (pc' := 92) (L' := [(1, .int (2590 + (3 * (I 186 2483)))), (0, .ref 185)]) (st' := [.int 13, .ref 185]) (I' := (tup I9 186 (((2590 + (3 * (I 186 2483)))).toNatClampNeg) 1)) (J' := J9) (by with_unfolding_all rfl) ?_
            refine pq_1 rfl rfl rfl rfl (pq_le hle (f235_185_pq hB rfl)) ?_
            rintro _ I11 J11 ⟨v11, rfl, hc11⟩
            rw [hc11] at hq
            dsimp only at hq
            refine pq_ifn hB rfl (fun h12 => ?_) (fun h12 => ?_)
            · rw [h12, cond_true] at hq
              refine pq_s hB 3 (pc' := 116) (L' := [(1, .int (2590 + (3 * (I 186 2483)))), (0, .ref 185)]) (st' := [.int 18, .retAddr 2, .ref 185]) (I' := I11) (J' := J11) (by with_unfolding_all rfl) ?_
              refine pq_1 rfl rfl rfl rfl (pq_le hle (f228_185_1002_pq hB rfl)) ?_
              rintro _ I13 J13 ⟨v13, rfl, hc13⟩
              rw [hc13] at hq
              dsimp only at hq
              refine pq_ifn hB rfl (fun h14 => ?_) (fun h14 => ?_)
              · rw [h14, cond_true] at hq
                refine pq_s hB 2 (pc' := 127) (L' := [(1, .int (2590 + (3 * (I 186 2483)))), (0, .ref 185)]) (st' := [.retAddr 2, .ref 185]) (I' := I13) (J' := J13) (by with_unfolding_all rfl) ?_
                refine pq_1 rfl rfl rfl rfl (pq_le hle (f230_185_1002_pq hB rfl)) ?_
                rintro _ I15 J15 ⟨v15, rfl, hc15⟩
                rw [hc15] at hq
                dsimp only at hq
                refine pq_ifn hB rfl (fun h16 => ?_) (fun h16 => ?_)
                · rw [h16, cond_true] at hq
                  refine pq_perm (L := [(0, .ref 185), (1, .int (2590 + (3 * (I 186 2483))))]) (leqn_of ⟨rfl, rfl, trivial⟩ ⟨rfl, rfl, trivial⟩ ⟨rfl, rfl, trivial⟩) ?_
                  exact f241_185_j164_pq hB hq
                · rw [h16, cond_false] at hq
                  refine pq_s hB 6 (pc' := 144) (L' := [(1, .int (2590 + (3 * (I 186 2483)))), (0, .ref 185)]) (st' := [.int (I15 186 2482), .int 60, .ref 185]) (I' := I15) (J' := J15) (by with_unfolding_all rfl) ?_
                  refine pq_1 rfl rfl rfl rfl (pq_le hle (f232_185_pq hB rfl)) ?_
                  rintro _ I17 J17 ⟨v17, rfl, hc17⟩
                  rw [hc17] at hq
                  dsimp only at hq
                  refine pq_s hB 6 (pc' := 155) (L' := [(1, .int (2590 + (3 * (I 186 2483)))), (0, .ref 185)]) (st' := [.int (I17 186 (((2590 + (3 * (I 186 2483))) + 1)).toNatClampNeg), .int v17]) (I' := I17) (J' := J17) (by with_unfolding_all rfl) ?_
                  refine pq_icn hB rfl (fun h18 => ?_) (fun h18 => ?_)
                  · rw [h18, cond_true] at hq
                    refine pq_perm (L := [(0, .ref 185), (1, .int (2590 + (3 * (I 186 2483))))]) (leqn_of ⟨rfl, rfl, trivial⟩ ⟨rfl, rfl, trivial⟩ ⟨rfl, rfl, trivial⟩) ?_
                    exact f241_185_j164_pq hB hq
                  · rw [h18, cond_false] at hq
                    refine pq_s hB 2 (pc' := 160) (L' := [(1, .int (2590 + (3 * (I 186 2483)))), (0, .ref 185)]) (st' := [.int 5, .ref 185]) (I' := I17) (J' := J17) (by with_unfolding_all rfl) ?_
                    generalize hc19 : f225_185 I17 J17 5 = q19 at hq
                    obtain ⟨v19, _, _⟩ := q19
                    dsimp only at hq
                    refine pq_1 rfl rfl rfl rfl (f225_185_pq hB hc19) ?_
                    rintro _ I19 J19 ⟨rfl, rfl, rfl⟩
                    subst hq
                    exact pq_2i (x := v19) rfl ⟨_, rfl, rfl⟩
              · rw [h14, cond_false] at hq
                refine pq_s hB 1 (pc' := 123) (L' := [(1, .int (2590 + (3 * (I 186 2483)))), (0, .ref 185)]) (st' := [.int 0]) (I' := I13) (J' := J13) (by with_unfolding_all rfl) ?_
                subst hq
                exact pq_2i (x := 0) rfl ⟨_, rfl, rfl⟩
            · rw [h12, cond_false] at hq
              refine pq_s hB 5 (pc' := 103) (L' := [(1, .int (2590 + (3 * (I 186 2483)))), (0, .ref 185)]) (st' := [.int 0, .int ((2590 + (3 * (I 186 2483))) + 2), .ref 185]) (I' := I11) (J' := J11) (by with_unfolding_all rfl) ?_
              refine pq_1 rfl rfl rfl rfl (pq_le hle (f238_185_pq hB rfl)) ?_
              rintro _ I20 J20 ⟨v20, rfl, hc20⟩
              rw [hc20] at hq
              dsimp only at hq
              refine pq_ifn hB rfl (fun h21 => ?_) (fun h21 => ?_)
              · rw [h21, cond_true] at hq
                refine pq_perm (L := [(0, .ref 185)]) (leqn_of ⟨rfl, trivial⟩ ⟨rfl, trivial⟩ ⟨rfl, rfl, trivial⟩) ?_
                exact f241_185_j176_pq hB hq
              · rw [h21, cond_false] at hq
                refine pq_s hB 1 (pc' := 110) (L' := [(1, .int (2590 + (3 * (I 186 2483)))), (0, .ref 185)]) (st' := [.int 0]) (I' := I20) (J' := J20) (by with_unfolding_all rfl) ?_
                subst hq
                exact pq_2i (x := 0) rfl ⟨_, rfl, rfl⟩
          · rw [h10, cond_false] at hq
            refine pq_s hB 5 (pc' := 92) (L' := [(1, .int (2590 + (3 * (I 186 2483)))), (0, .ref 185)]) (st' := [.int 13, .ref 185]) (I' := (tup I9 186 (((2590 + (3 * (I 186 2483)))).toNatClampNeg) 0)) (J' := J9) (by with_unfolding_all rfl) ?_
            refine pq_1 rfl rfl rfl rfl (pq_le hle (f235_185_pq hB rfl)) ?_
            rintro _ I22 J22 ⟨v22, rfl, hc22⟩
            rw [hc22] at hq
            dsimp only at hq
            refine pq_ifn hB rfl (fun h23 => ?_) (fun h23 => ?_)
            · rw [h23, cond_true] at hq
              refine pq_s hB 3 (pc' := 116) (L' := [(1, .int (2590 + (3 * (I 186 2483)))), (0, .ref 185)]) (st' := [.int 18, .retAddr 2, .ref 185]) (I' := I22) (J' := J22) (by with_unfolding_all rfl) ?_
              refine pq_1 rfl rfl rfl rfl (pq_le hle (f228_185_1002_pq hB rfl)) ?_
              rintro _ I24 J24 ⟨v24, rfl, hc24⟩
              rw [hc24] at hq
              dsimp only at hq
              refine pq_ifn hB rfl (fun h25 => ?_) (fun h25 => ?_)
              · rw [h25, cond_true] at hq
                refine pq_s hB 2 (pc' := 127) (L' := [(1, .int (2590 + (3 * (I 186 2483)))), (0, .ref 185)]) (st' := [.retAddr 2, .ref 185]) (I' := I24) (J' := J24) (by with_unfolding_all rfl) ?_
                refine pq_1 rfl rfl rfl rfl (pq_le hle (f230_185_1002_pq hB rfl)) ?_
                rintro _ I26 J26 ⟨v26, rfl, hc26⟩
                rw [hc26] at hq
                dsimp only at hq
                refine pq_ifn hB rfl (fun h27 => ?_) (fun h27 => ?_)
                · rw [h27, cond_true] at hq
                  refine pq_perm (L := [(0, .ref 185), (1, .int (2590 + (3 * (I 186 2483))))]) (leqn_of ⟨rfl, rfl, trivial⟩ ⟨rfl, rfl, trivial⟩ ⟨rfl, rfl, trivial⟩) ?_
                  exact f241_185_j164_pq hB hq
                · rw [h27, cond_false] at hq
                  refine pq_s hB 6 (pc' := 144) (L' := [(1, .int (2590 + (3 * (I 186 2483)))), (0, .ref 185)]) (st' := [.int (I26 186 2482), .int 60, .ref 185]) (I' := I26) (J' := J26) (by with_unfolding_all rfl) ?_
                  refine pq_1 rfl rfl rfl rfl (pq_le hle (f232_185_pq hB rfl)) ?_
                  rintro _ I28 J28 ⟨v28, rfl, hc28⟩
                  rw [hc28] at hq
                  dsimp only at hq
                  refine pq_s hB 6 (pc' := 155) (L' := [(1, .int (2590 + (3 * (I 186 2483)))), (0, .ref 185)]) (st' := [.int (I28 186 (((2590 + (3 * (I 186 2483))) + 1)).toNatClampNeg), .int v28]) (I' := I28) (J' := J28) (by with_unfolding_all rfl) ?_
                  refine pq_icn hB rfl (fun h29 => ?_) (fun h29 => ?_)
                  · rw [h29, cond_true] at hq
                    refine pq_perm (L := [(0, .ref 185), (1, .int (2590 + (3 * (I 186 2483))))]) (leqn_of ⟨rfl, rfl, trivial⟩ ⟨rfl, rfl, trivial⟩ ⟨rfl, rfl, trivial⟩) ?_
                    exact f241_185_j164_pq hB hq
                  · rw [h29, cond_false] at hq
                    refine pq_s hB 2 (pc' := 160) (L' := [(1, .int (2590 + (3 * (I 186 2483)))), (0, .ref 185)]) (st' := [.int 5, .ref 185]) (I' := I28) (J' := J28) (by with_unfolding_all rfl) ?_
                    generalize hc30 : f225_185 I28 J28 5 = q30 at hq
                    obtain ⟨v30, _, _⟩ := q30
                    dsimp only at hq
                    refine pq_1 rfl rfl rfl rfl (f225_185_pq hB hc30) ?_
                    rintro _ I30 J30 ⟨rfl, rfl, rfl⟩
                    subst hq
                    exact pq_2i (x := v30) rfl ⟨_, rfl, rfl⟩
              · rw [h25, cond_false] at hq
                refine pq_s hB 1 (pc' := 123) (L' := [(1, .int (2590 + (3 * (I 186 2483)))), (0, .ref 185)]) (st' := [.int 0]) (I' := I24) (J' := J24) (by with_unfolding_all rfl) ?_
                subst hq
                exact pq_2i (x := 0) rfl ⟨_, rfl, rfl⟩
            · rw [h23, cond_false] at hq
              refine pq_s hB 5 (pc' := 103) (L' := [(1, .int (2590 + (3 * (I 186 2483)))), (0, .ref 185)]) (st' := [.int 0, .int ((2590 + (3 * (I 186 2483))) + 2), .ref 185]) (I' := I22) (J' := J22) (by with_unfolding_all rfl) ?_
              refine pq_1 rfl rfl rfl rfl (pq_le hle (f238_185_pq hB rfl)) ?_
              rintro _ I31 J31 ⟨v31, rfl, hc31⟩
              rw [hc31] at hq
              dsimp only at hq
              refine pq_ifn hB rfl (fun h32 => ?_) (fun h32 => ?_)
              · rw [h32, cond_true] at hq
                refine pq_perm (L := [(0, .ref 185)]) (leqn_of ⟨rfl, trivial⟩ ⟨rfl, trivial⟩ ⟨rfl, rfl, trivial⟩) ?_
                exact f241_185_j176_pq hB hq
              · rw [h32, cond_false] at hq
                refine pq_s hB 1 (pc' := 110) (L' := [(1, .int (2590 + (3 * (I 186 2483)))), (0, .ref 185)]) (st' := [.int 0]) (I' := I31) (J' := J31) (by with_unfolding_all rfl) ?_
                subst hq
                exact pq_2i (x := 0) rfl ⟨_, rfl, rfl⟩
        · rw [h8, cond_false] at hq
          refine pq_s hB 1 (pc' := 66) (L' := [(1, .int (2590 + (3 * (I 186 2483)))), (0, .ref 185)]) (st' := [.int 0]) (I' := I7) (J' := J7) (by with_unfolding_all rfl) ?_
          subst hq
          exact pq_2i (x := 0) rfl ⟨_, rfl, rfl⟩
  · rw [h2, cond_false] at hq
    refine pq_s hB 1 (pc' := 27) (L' := [(1, .int (2590 + (3 * (I 186 2483)))), (0, .ref 185)]) (st' := [.int 0]) (I' := I1) (J' := J1) (by with_unfolding_all rfl) ?_
    subst hq
    exact pq_2i (x := 0) rfl ⟨_, rfl, rfl⟩
-- LPModel.aBuyer, from 57 on
def f242_185_j57 (N : Nat) (I : tI) (J : tJ) : Option (Int32 × tI × tJ) :=
  some (1, (tup I 186 2484 ((I 186 2484) + 1)), J)
set_option maxRecDepth 100000 in
theorem f242_185_j57_pq {sc : List Int32} {B : xM} {N : Nat} {I : tI} {J : tJ} (hB : kB pT B) : ∀ {X : Option (Int32 × tI × tJ)}, f242_185_j57 N I J = X → pq sc B N (xt_242, 2, 3) 57 [(0, .ref 185)] [] I J (fun v I1 J1 => ∃ a, v = some (.int a) ∧ X = some (a, I1, J1)) := by
  intro X hq
  unfold f242_185_j57 at hq
  have hle : N ≤ N := Nat.le_refl N
  refine pq_s hB 9 (pc' := 70) (L' := [(0, .ref 185)]) (st' := [.int 1]) (I' := (tup I 186 2484 ((I 186 2484) + 1))) (J' := J) (by with_unfolding_all rfl) ?_
  subst hq
  exact pq_2i (x := 1) rfl ⟨_, rfl, rfl⟩
-- LPModel.aBuyer
def f242_185 (N : Nat) (I : tI) (J : tJ) : Option (Int32 × tI × tJ) :=
  (match f236_185 N I J 4 4 11 with | none => none | some (v1, I1, J1) => bif xcmp .ne v1 0 then (match f235_185 N (tup I1 186 (((2608 + (I 186 2484))).toNatClampNeg) 100) J1 20 with | none => none | some (v3, I3, J3) => bif xcmp .eq v3 0 then f242_185_j57 N I3 J3 else (match f229_185 N I3 J3 (2608 + (I 186 2484)) 0 9999 with | none => none | some (v5, I5, J5) => bif xcmp .ne v5 0 then f242_185_j57 N I5 J5 else some (0, I5, J5))) else some (0, I1, J1))
set_option maxRecDepth 100000 in
theorem f242_185_pq {sc : List Int32} {B : xM} {N : Nat} {I : tI} {J : tJ} (hB : kB pT B) : ∀ {X : Option (Int32 × tI × tJ)}, f242_185 N I J = X → pq sc B N (xt_242, 2, 3) 0 [(0, .ref 185)] [] I J (fun v I1 J1 => ∃ a, v = some (.int a) ∧ X = some (a, I1, J1)) := by
  intro X hq
  unfold f242_185 at hq
  have hle : N ≤ N := Nat.le_refl N
  refine pq_s hB 11 (pc' := 18) (L' := [(1, .int (2608 + (I 186 2484))), (0, .ref 185)]) (st' := [.int 11, .int 4, .int 4, .ref 185]) (I' := I) (J' := J) (by with_unfolding_all rfl) ?_
  refine pq_1 rfl rfl rfl rfl (pq_le hle (f236_185_pq hB rfl)) ?_
  rintro _ I1 J1 ⟨v1, rfl, hc1⟩
  rw [hc1] at hq
  dsimp only at hq
  refine pq_ifn hB rfl (fun h2 => ?_) (fun h2 => ?_)
  · rw [h2, cond_true] at hq
    refine pq_s hB 7 (pc' := 37) (L' := [(1, .int (2608 + (I 186 2484))), (0, .ref 185)]) (st' := [.int 20, .ref 185]) (I' := (tup I1 186 (((2608 + (I 186 2484))).toNatClampNeg) 100)) (J' := J1) (by with_unfolding_all rfl) ?_
    refine pq_1 rfl rfl rfl rfl (pq_le hle (f235_185_pq hB rfl)) ?_
    rintro _ I3 J3 ⟨v3, rfl, hc3⟩
    rw [hc3] at hq
    dsimp only at hq
    refine pq_ifn hB rfl (fun h4 => ?_) (fun h4 => ?_)
    · rw [h4, cond_true] at hq
      refine pq_perm (L := [(0, .ref 185)]) (leqn_of ⟨rfl, trivial⟩ ⟨rfl, trivial⟩ ⟨rfl, rfl, trivial⟩) ?_
      exact f242_185_j57_pq hB hq
    · rw [h4, cond_false] at hq
      refine pq_s hB 4 (pc' := 49) (L' := [(1, .int (2608 + (I 186 2484))), (0, .ref 185)]) (st' := [.int 9999, .int 0, .int (2608 + (I 186 2484)), .ref 185]) (I' := I3) (J' := J3) (by with_unfolding_all rfl) ?_
      refine pq_1 rfl rfl rfl rfl (pq_le hle (f229_185_pq hB rfl)) ?_
      rintro _ I5 J5 ⟨v5, rfl, hc5⟩
      rw [hc5] at hq
      dsimp only at hq
      refine pq_ifn hB rfl (fun h6 => ?_) (fun h6 => ?_)
      · rw [h6, cond_true] at hq
        refine pq_perm (L := [(0, .ref 185)]) (leqn_of ⟨rfl, trivial⟩ ⟨rfl, trivial⟩ ⟨rfl, rfl, trivial⟩) ?_
        exact f242_185_j57_pq hB hq
      · rw [h6, cond_false] at hq
        refine pq_s hB 1 (pc' := 56) (L' := [(1, .int (2608 + (I 186 2484))), (0, .ref 185)]) (st' := [.int 0]) (I' := I5) (J' := J5) (by with_unfolding_all rfl) ?_
        subst hq
        exact pq_2i (x := 0) rfl ⟨_, rfl, rfl⟩
  · rw [h2, cond_false] at hq
    refine pq_s hB 1 (pc' := 25) (L' := [(1, .int (2608 + (I 186 2484))), (0, .ref 185)]) (st' := [.int 0]) (I' := I1) (J' := J1) (by with_unfolding_all rfl) ?_
    subst hq
    exact pq_2i (x := 0) rfl ⟨_, rfl, rfl⟩
-- LPModel.scenePart, from 71 on
def f243_185_j71 (N : Nat) (I : tI) (J : tJ) (x1 : Int32) : Option (Int32 × tI × tJ) :=
  bif xcmp .eq x1 5 then ((match f222_185 N (tup I 185 20 ((I 185 20) ||| (1 <<< (x1 &&& 31)))) J with | none => none | some (_, I9, J9) => (match f229_185 N I9 J9 2480 1 6 with | none => none | some (v10, I10, J10) => bif xcmp .eq v10 0 then f243_185_j164 N I10 J10 else (match f228_185_1002 N I10 J10 11 with | none => none | some (v12, I12, J12) => bif xcmp .eq v12 0 then f243_185_j164 N I12 J12 else (match f229_185 N I12 J12 2481 1 5 with | none => none | some (v14, I14, J14) => bif xcmp .eq v14 0 then f243_185_j164 N I14 J14 else f243_185_j165 N I14 J14 1))))) else bif xcmp .eq x1 6 then ((match f222_185 N (tup I 185 20 ((I 185 20) ||| (1 <<< (x1 &&& 31)))) J with | none => none | some (_, I17, J17) => (match f229_185 N I17 J17 2486 0 99 with | none => none | some (v18, I18, J18) => bif xcmp .eq v18 0 then f243_185_j214 N I18 J18 else (match f228_185_1002 N I18 J18 12 with | none => none | some (v20, I20, J20) => bif xcmp .eq v20 0 then f243_185_j214 N I20 J20 else (match f229_185 N I20 J20 2487 0 20 with | none => none | some (v22, I22, J22) => bif xcmp .eq v22 0 then f243_185_j214 N I22 J22 else f243_185_j215 N I22 J22 1))))) else bif xcmp .eq x1 7 then ((match f222_185 N (tup I 185 20 ((I 185 20) ||| (1 <<< (x1 &&& 31)))) J with | none => none | some (_, I25, J25) => (match f238_185 N I25 J25 3094 1 with | none => none | some (v26, I26, J26) => bif xcmp .eq v26 0 then f243_185_j278 N I26 J26 v26 else f243_185_j278 N (tup I26 186 (((2490 + (I26 186 3094))).toNatClampNeg) 1) J26 v26))) else bif xcmp .eq x1 8 then ((match f240_185 N (tup I 185 20 ((I 185 20) ||| (1 <<< (x1 &&& 31)))) J with | none => none | some (v29, I29, J29) => f243_185_j278 N I29 J29 v29)) else bif xcmp .eq x1 9 then ((match f241_185 N (tup I 185 20 ((I 185 20) ||| (1 <<< (x1 &&& 31)))) J with | none => none | some (v31, I31, J31) => f243_185_j278 N I31 J31 v31)) else (match f242_185 N (tup I 185 20 ((I 185 20) ||| (1 <<< (x1 &&& 31)))) J with | none => none | some (v32, I32, J32) => f243_185_j278 N I32 J32 v32)
set_option maxRecDepth 100000 in
theorem f243_185_j71_pq {sc : List Int32} {B : xM} {N : Nat} {I : tI} {J : tJ} {x1 : Int32} (hB : kB pT B) : ∀ {X : Option (Int32 × tI × tJ)}, f243_185_j71 N I J x1 = X → pq sc B N (xt_243, 3, 3) 71 [(0, .ref 185), (1, .int x1)] [] I J (fun v I1 J1 => ∃ a, v = some (.int a) ∧ X = some (a, I1, J1)) := by
  intro X hq
  unfold f243_185_j71 at hq
  have hle : N ≤ N := Nat.le_refl N
  refine pq_s hB 9 (pc' := 84) (L' := [(0, .ref 185), (1, .int x1)]) (st' := [.int x1]) (I' := (tup I 185 20 ((I 185 20) ||| (1 <<< (x1 &&& 31))))) (J' := J) (by with_unfolding_all rfl) ?_
  cases h8 : xcmp .eq x1 5 with
  | true =>
    rw [h8, cond_true] at hq
    refine pq_tsw_k hB (c := 5) (t := 120) rfl h8 rfl ?_
    refine pq_s hB 1 (pc' := 121) (L' := [(0, .ref 185), (1, .int x1)]) (st' := [.ref 185]) (I' := (tup I 185 20 ((I 185 20) ||| (1 <<< (x1 &&& 31))))) (J' := J) (by with_unfolding_all rfl) ?_
    refine pq_1 rfl rfl rfl rfl (pq_le hle (f222_185_pq hB rfl)) ?_
    rintro _ I9 J9 ⟨rfl, hc9⟩
    rw [hc9] at hq
    dsimp only at hq
    refine pq_s hB 4 (pc' := 131) (L' := [(0, .ref 185), (1, .int x1)]) (st' := [.int 6, .int 1, .int 2480, .ref 185]) (I' := I9) (J' := J9) (by with_unfolding_all rfl) ?_
    refine pq_1 rfl rfl rfl rfl (pq_le hle (f229_185_pq hB rfl)) ?_
    rintro _ I10 J10 ⟨v10, rfl, hc10⟩
    rw [hc10] at hq
    dsimp only at hq
    refine pq_ifn hB rfl (fun h11 => ?_) (fun h11 => ?_)
    · rw [h11, cond_true] at hq
      refine pq_perm (L := [(0, .ref 185)]) (leqn_of ⟨rfl, trivial⟩ ⟨rfl, trivial⟩ ⟨rfl, rfl, trivial⟩) ?_
      exact f243_185_j164_pq hB hq
    · rw [h11, cond_false] at hq
      refine pq_s hB 3 (pc' := 142) (L' := [(0, .ref 185), (1, .int x1)]) (st' := [.int 11, .retAddr 2, .ref 185]) (I' := I10) (J' := J10) (by with_unfolding_all rfl) ?_
      refine pq_1 rfl rfl rfl rfl (pq_le hle (f228_185_1002_pq hB rfl)) ?_
      rintro _ I12 J12 ⟨v12, rfl, hc12⟩
      rw [hc12] at hq
      dsimp only at hq
      refine pq_ifn hB rfl (fun h13 => ?_) (fun h13 => ?_)
      · rw [h13, cond_true] at hq
        refine pq_perm (L := [(0, .ref 185)]) (leqn_of ⟨rfl, trivial⟩ ⟨rfl, trivial⟩ ⟨rfl, rfl, trivial⟩) ?_
        exact f243_185_j164_pq hB hq
      · rw [h13, cond_false] at hq
        refine pq_s hB 4 (pc' := 154) (L' := [(0, .ref 185), (1, .int x1)]) (st' := [.int 5, .int 1, .int 2481, .ref 185]) (I' := I12) (J' := J12) (by with_unfolding_all rfl) ?_
        refine pq_1 rfl rfl rfl rfl (pq_le hle (f229_185_pq hB rfl)) ?_
        rintro _ I14 J14 ⟨v14, rfl, hc14⟩
        rw [hc14] at hq
        dsimp only at hq
        refine pq_ifn hB rfl (fun h15 => ?_) (fun h15 => ?_)
        · rw [h15, cond_true] at hq
          refine pq_perm (L := [(0, .ref 185)]) (leqn_of ⟨rfl, trivial⟩ ⟨rfl, trivial⟩ ⟨rfl, rfl, trivial⟩) ?_
          exact f243_185_j164_pq hB hq
        · rw [h15, cond_false] at hq
          refine pq_s hB 2 (pc' := 165) (L' := [(0, .ref 185), (1, .int x1)]) (st' := [.int 1]) (I' := I14) (J' := J14) (by with_unfolding_all rfl) ?_
          refine pq_perm (L := [(0, .ref 185)]) (leqn_of ⟨rfl, trivial⟩ ⟨rfl, trivial⟩ ⟨rfl, rfl, trivial⟩) ?_
          exact f243_185_j165_pq hB hq
  | false =>
    rw [h8, cond_false] at hq
    cases h16 : xcmp .eq x1 6 with
    | true =>
      rw [h16, cond_true] at hq
      refine pq_tsw_k hB (c := 6) (t := 169) rfl h16 rfl ?_
      refine pq_s hB 1 (pc' := 170) (L' := [(0, .ref 185), (1, .int x1)]) (st' := [.ref 185]) (I' := (tup I 185 20 ((I 185 20) ||| (1 <<< (x1 &&& 31))))) (J' := J) (by with_unfolding_all rfl) ?_
      refine pq_1 rfl rfl rfl rfl (pq_le hle (f222_185_pq hB rfl)) ?_
      rintro _ I17 J17 ⟨rfl, hc17⟩
      rw [hc17] at hq
      dsimp only at hq
      refine pq_s hB 4 (pc' := 180) (L' := [(0, .ref 185), (1, .int x1)]) (st' := [.int 99, .int 0, .int 2486, .ref 185]) (I' := I17) (J' := J17) (by with_unfolding_all rfl) ?_
      refine pq_1 rfl rfl rfl rfl (pq_le hle (f229_185_pq hB rfl)) ?_
      rintro _ I18 J18 ⟨v18, rfl, hc18⟩
      rw [hc18] at hq
      dsimp only at hq
      refine pq_ifn hB rfl (fun h19 => ?_) (fun h19 => ?_)
      · rw [h19, cond_true] at hq
        refine pq_perm (L := [(0, .ref 185)]) (leqn_of ⟨rfl, trivial⟩ ⟨rfl, trivial⟩ ⟨rfl, rfl, trivial⟩) ?_
        exact f243_185_j214_pq hB hq
      · rw [h19, cond_false] at hq
        refine pq_s hB 3 (pc' := 191) (L' := [(0, .ref 185), (1, .int x1)]) (st' := [.int 12, .retAddr 2, .ref 185]) (I' := I18) (J' := J18) (by with_unfolding_all rfl) ?_
        refine pq_1 rfl rfl rfl rfl (pq_le hle (f228_185_1002_pq hB rfl)) ?_
        rintro _ I20 J20 ⟨v20, rfl, hc20⟩
        rw [hc20] at hq
        dsimp only at hq
        refine pq_ifn hB rfl (fun h21 => ?_) (fun h21 => ?_)
        · rw [h21, cond_true] at hq
          refine pq_perm (L := [(0, .ref 185)]) (leqn_of ⟨rfl, trivial⟩ ⟨rfl, trivial⟩ ⟨rfl, rfl, trivial⟩) ?_
          exact f243_185_j214_pq hB hq
        · rw [h21, cond_false] at hq
          refine pq_s hB 4 (pc' := 204) (L' := [(0, .ref 185), (1, .int x1)]) (st' := [.int 20, .int 0, .int 2487, .ref 185]) (I' := I20) (J' := J20) (by with_unfolding_all rfl) ?_
          refine pq_1 rfl rfl rfl rfl (pq_le hle (f229_185_pq hB rfl)) ?_
          rintro _ I22 J22 ⟨v22, rfl, hc22⟩
          rw [hc22] at hq
          dsimp only at hq
          refine pq_ifn hB rfl (fun h23 => ?_) (fun h23 => ?_)
          · rw [h23, cond_true] at hq
            refine pq_perm (L := [(0, .ref 185)]) (leqn_of ⟨rfl, trivial⟩ ⟨rfl, trivial⟩ ⟨rfl, rfl, trivial⟩) ?_
            exact f243_185_j214_pq hB hq
          · rw [h23, cond_false] at hq
            refine pq_s hB 2 (pc' := 215) (L' := [(0, .ref 185), (1, .int x1)]) (st' := [.int 1]) (I' := I22) (J' := J22) (by with_unfolding_all rfl) ?_
            refine pq_perm (L := [(0, .ref 185)]) (leqn_of ⟨rfl, trivial⟩ ⟨rfl, trivial⟩ ⟨rfl, rfl, trivial⟩) ?_
            exact f243_185_j215_pq hB hq
    | false =>
      rw [h16, cond_false] at hq
      cases h24 : xcmp .eq x1 7 with
      | true =>
        rw [h24, cond_true] at hq
        refine pq_tsw_k hB (c := 7) (t := 219) rfl h24 rfl ?_
        refine pq_s hB 1 (pc' := 220) (L' := [(0, .ref 185), (1, .int x1)]) (st' := [.ref 185]) (I' := (tup I 185 20 ((I 185 20) ||| (1 <<< (x1 &&& 31))))) (J' := J) (by with_unfolding_all rfl) ?_
        refine pq_1 rfl rfl rfl rfl (pq_le hle (f222_185_pq hB rfl)) ?_
        rintro _ I25 J25 ⟨rfl, hc25⟩
        rw [hc25] at hq
        dsimp only at hq
        refine pq_s hB 3 (pc' := 228) (L' := [(0, .ref 185), (1, .int x1)]) (st' := [.int 1, .int 3094, .ref 185]) (I' := I25) (J' := J25) (by with_unfolding_all rfl) ?_
        refine pq_1 rfl rfl rfl rfl (pq_le hle (f238_185_pq hB rfl)) ?_
        rintro _ I26 J26 ⟨v26, rfl, hc26⟩
        rw [hc26] at hq
        dsimp only at hq
        refine pq_s hB 2 (pc' := 233) (L' := [(2, .int v26), (0, .ref 185), (1, .int x1)]) (st' := [.int v26]) (I' := I26) (J' := J26) (by with_unfolding_all rfl) ?_
        refine pq_ifn hB rfl (fun h27 => ?_) (fun h27 => ?_)
        · rw [h27, cond_true] at hq
          refine pq_perm (L := [(0, .ref 185), (2, .int v26)]) (leqn_of ⟨rfl, rfl, trivial⟩ ⟨rfl, rfl, trivial⟩ ⟨rfl, rfl, rfl, trivial⟩) ?_
          exact f243_185_j278_pq hB hq
        · rw [h27, cond_false] at hq
          refine pq_s hB 11 (pc' := 278) (L' := [(2, .int v26), (0, .ref 185), (1, .int x1)]) (st' := []) (I' := (tup I26 186 (((2490 + (I26 186 3094))).toNatClampNeg) 1)) (J' := J26) (by with_unfolding_all rfl) ?_
          refine pq_perm (L := [(0, .ref 185), (2, .int v26)]) (leqn_of ⟨rfl, rfl, trivial⟩ ⟨rfl, rfl, trivial⟩ ⟨rfl, rfl, rfl, trivial⟩) ?_
          exact f243_185_j278_pq hB hq
      | false =>
        rw [h24, cond_false] at hq
        cases h28 : xcmp .eq x1 8 with
        | true =>
          rw [h28, cond_true] at hq
          refine pq_tsw_k hB (c := 8) (t := 257) rfl h28 rfl ?_
          refine pq_s hB 1 (pc' := 258) (L' := [(0, .ref 185), (1, .int x1)]) (st' := [.ref 185]) (I' := (tup I 185 20 ((I 185 20) ||| (1 <<< (x1 &&& 31))))) (J' := J) (by with_unfolding_all rfl) ?_
          refine pq_1 rfl rfl rfl rfl (pq_le hle (f240_185_pq hB rfl)) ?_
          rintro _ I29 J29 ⟨v29, rfl, hc29⟩
          rw [hc29] at hq
          dsimp only at hq
          refine pq_s hB 2 (pc' := 278) (L' := [(2, .int v29), (0, .ref 185), (1, .int x1)]) (st' := []) (I' := I29) (J' := J29) (by with_unfolding_all rfl) ?_
          refine pq_perm (L := [(0, .ref 185), (2, .int v29)]) (leqn_of ⟨rfl, rfl, trivial⟩ ⟨rfl, rfl, trivial⟩ ⟨rfl, rfl, rfl, trivial⟩) ?_
          exact f243_185_j278_pq hB hq
        | false =>
          rw [h28, cond_false] at hq
          cases h30 : xcmp .eq x1 9 with
          | true =>
            rw [h30, cond_true] at hq
            refine pq_tsw_k hB (c := 9) (t := 265) rfl h30 rfl ?_
            refine pq_s hB 1 (pc' := 266) (L' := [(0, .ref 185), (1, .int x1)]) (st' := [.ref 185]) (I' := (tup I 185 20 ((I 185 20) ||| (1 <<< (x1 &&& 31))))) (J' := J) (by with_unfolding_all rfl) ?_
            refine pq_1 rfl rfl rfl rfl (pq_le hle (f241_185_pq hB rfl)) ?_
            rintro _ I31 J31 ⟨v31, rfl, hc31⟩
            rw [hc31] at hq
            dsimp only at hq
            refine pq_s hB 2 (pc' := 278) (L' := [(2, .int v31), (0, .ref 185), (1, .int x1)]) (st' := []) (I' := I31) (J' := J31) (by with_unfolding_all rfl) ?_
            refine pq_perm (L := [(0, .ref 185), (2, .int v31)]) (leqn_of ⟨rfl, rfl, trivial⟩ ⟨rfl, rfl, trivial⟩ ⟨rfl, rfl, rfl, trivial⟩) ?_
            exact f243_185_j278_pq hB hq
          | false =>
            rw [h30, cond_false] at hq
            refine pq_tsw_d hB (cs := [5, 6, 7, 8, 9]) rfl rfl rfl (List.forall_mem_cons.mpr ⟨h8, List.forall_mem_cons.mpr ⟨h16, List.forall_mem_cons.mpr ⟨h24, List.forall_mem_cons.mpr ⟨h28, List.forall_mem_cons.mpr ⟨h30, fun c hc => by cases hc⟩⟩⟩⟩⟩) ?_
            show pq sc B _ _ 273 _ _ _ _ _
            refine pq_s hB 1 (pc' := 274) (L' := [(0, .ref 185), (1, .int x1)]) (st' := [.ref 185]) (I' := (tup I 185 20 ((I 185 20) ||| (1 <<< (x1 &&& 31))))) (J' := J) (by with_unfolding_all rfl) ?_
            refine pq_1 rfl rfl rfl rfl (pq_le hle (f242_185_pq hB rfl)) ?_
            rintro _ I32 J32 ⟨v32, rfl, hc32⟩
            rw [hc32] at hq
            dsimp only at hq
            refine pq_s hB 1 (pc' := 278) (L' := [(2, .int v32), (0, .ref 185), (1, .int x1)]) (st' := []) (I' := I32) (J' := J32) (by with_unfolding_all rfl) ?_
            refine pq_perm (L := [(0, .ref 185), (2, .int v32)]) (leqn_of ⟨rfl, rfl, trivial⟩ ⟨rfl, rfl, trivial⟩ ⟨rfl, rfl, rfl, trivial⟩) ?_
            exact f243_185_j278_pq hB hq
-- LPModel.scenePart, from 47 on
def f243_185_j47 (N : Nat) (I : tI) (J : tJ) (x1 : Int32) : Option (Int32 × tI × tJ) :=
  bif xcmp .gt x1 6 then f243_185_j71 N I J x1 else bif xcmp .ne (((I 185 20) >>> (x1 &&& 31)) &&& 1) 1 then f243_185_j71 N I J x1 else (match f225_185 I J 5 with | (v9, I9, J9) => some (v9, I9, J9))
set_option maxRecDepth 100000 in
theorem f243_185_j47_pq {sc : List Int32} {B : xM} {N : Nat} {I : tI} {J : tJ} {x1 : Int32} (hB : kB pT B) : ∀ {X : Option (Int32 × tI × tJ)}, f243_185_j47 N I J x1 = X → pq sc B N (xt_243, 3, 3) 47 [(0, .ref 185), (1, .int x1)] [] I J (fun v I1 J1 => ∃ a, v = some (.int a) ∧ X = some (a, I1, J1)) := by
  intro X hq
  unfold f243_185_j47 at hq
  have hle : N ≤ N := Nat.le_refl N
  refine pq_s hB 2 (pc' := 50) (L' := [(0, .ref 185), (1, .int x1)]) (st' := [.int 6, .int x1]) (I' := I) (J' := J) (by with_unfolding_all rfl) ?_
  refine pq_icn hB rfl (fun h7 => ?_) (fun h7 => ?_)
  · rw [h7, cond_true] at hq
    exact f243_185_j71_pq hB hq
  · rw [h7, cond_false] at hq
    refine pq_s hB 7 (pc' := 62) (L' := [(0, .ref 185), (1, .int x1)]) (st' := [.int 1, .int (((I 185 20) >>> (x1 &&& 31)) &&& 1)]) (I' := I) (J' := J) (by with_unfolding_all rfl) ?_
    refine pq_icn hB rfl (fun h8 => ?_) (fun h8 => ?_)
    · rw [h8, cond_true] at hq
      exact f243_185_j71_pq hB hq
    · rw [h8, cond_false] at hq
      refine pq_s hB 2 (pc' := 67) (L' := [(0, .ref 185), (1, .int x1)]) (st' := [.int 5, .ref 185]) (I' := I) (J' := J) (by with_unfolding_all rfl) ?_
      generalize hc9 : f225_185 I J 5 = q9 at hq
      obtain ⟨v9, _, _⟩ := q9
      dsimp only at hq
      refine pq_1 rfl rfl rfl rfl (f225_185_pq hB hc9) ?_
      rintro _ I9 J9 ⟨rfl, rfl, rfl⟩
      subst hq
      exact pq_2i (x := v9) rfl ⟨_, rfl, rfl⟩
-- LPModel.scenePart
def f243_185 (N : Nat) (I : tI) (J : tJ) : Option (Int32 × tI × tJ) :=
  (match f224_185_1002 N I J with | none => none | some (v1, I1, J1) => bif xcmp .lt v1 5 then (match f225_185 I1 J1 2 with | (v3, I3, J3) => some (v3, I3, J3)) else bif xcmp .gt v1 10 then (match f225_185 I1 J1 2 with | (v5, I5, J5) => some (v5, I5, J5)) else bif xcmp .lt v1 7 then f243_185_j47 N I1 J1 v1 else bif xcmp .gt v1 9 then f243_185_j47 N I1 J1 v1 else bif xcmp .ne (I1 186 2480) 0 then f243_185_j47 N I1 J1 v1 else (match f225_185 I1 J1 2 with | (v9, I9, J9) => some (v9, I9, J9)))
set_option maxRecDepth 100000 in
theorem f243_185_pq {sc : List Int32} {B : xM} {N : Nat} {I : tI} {J : tJ} (hB : kB pT B) : ∀ {X : Option (Int32 × tI × tJ)}, f243_185 N I J = X → pq sc B N (xt_243, 3, 3) 0 [(0, .ref 185)] [] I J (fun v I1 J1 => ∃ a, v = some (.int a) ∧ X = some (a, I1, J1)) := by
  intro X hq
  unfold f243_185 at hq
  have hle : N ≤ N := Nat.le_refl N
  refine pq_s hB 2 (pc' := 3) (L' := [(0, .ref 185)]) (st' := [.retAddr 2, .ref 185]) (I' := I) (J' := J) (by with_unfolding_all rfl) ?_
  refine pq_1 rfl rfl rfl rfl (pq_le hle (f224_185_1002_pq hB rfl)) ?_
  rintro _ I1 J1 ⟨v1, rfl, hc1⟩
  rw [hc1] at hq
  dsimp only at hq
  refine pq_s hB 3 (pc' := 9) (L' := [(1, .int v1), (0, .ref 185)]) (st' := [.int 5, .int v1]) (I' := I1) (J' := J1) (by with_unfolding_all rfl) ?_
  refine pq_icn hB rfl (fun h2 => ?_) (fun h2 => ?_)
  · rw [h2, cond_true] at hq
    refine pq_s hB 2 (pc' := 43) (L' := [(1, .int v1), (0, .ref 185)]) (st' := [.int 2, .ref 185]) (I' := I1) (J' := J1) (by with_unfolding_all rfl) ?_
    generalize hc3 : f225_185 I1 J1 2 = q3 at hq
    obtain ⟨v3, _, _⟩ := q3
    dsimp only at hq
    refine pq_1 rfl rfl rfl rfl (f225_185_pq hB hc3) ?_
    rintro _ I3 J3 ⟨rfl, rfl, rfl⟩
    subst hq
    exact pq_2i (x := v3) rfl ⟨_, rfl, rfl⟩
  · rw [h2, cond_false] at hq
    refine pq_s hB 2 (pc' := 15) (L' := [(1, .int v1), (0, .ref 185)]) (st' := [.int 10, .int v1]) (I' := I1) (J' := J1) (by with_unfolding_all rfl) ?_
    refine pq_icn hB rfl (fun h4 => ?_) (fun h4 => ?_)
    · rw [h4, cond_true] at hq
      refine pq_s hB 2 (pc' := 43) (L' := [(1, .int v1), (0, .ref 185)]) (st' := [.int 2, .ref 185]) (I' := I1) (J' := J1) (by with_unfolding_all rfl) ?_
      generalize hc5 : f225_185 I1 J1 2 = q5 at hq
      obtain ⟨v5, _, _⟩ := q5
      dsimp only at hq
      refine pq_1 rfl rfl rfl rfl (f225_185_pq hB hc5) ?_
      rintro _ I5 J5 ⟨rfl, rfl, rfl⟩
      subst hq
      exact pq_2i (x := v5) rfl ⟨_, rfl, rfl⟩
    · rw [h4, cond_false] at hq
      refine pq_s hB 2 (pc' := 21) (L' := [(1, .int v1), (0, .ref 185)]) (st' := [.int 7, .int v1]) (I' := I1) (J' := J1) (by with_unfolding_all rfl) ?_
      refine pq_icn hB rfl (fun h6 => ?_) (fun h6 => ?_)
      · rw [h6, cond_true] at hq
        refine pq_perm (L := [(0, .ref 185), (1, .int v1)]) (leqn_of ⟨rfl, rfl, trivial⟩ ⟨rfl, rfl, trivial⟩ ⟨rfl, rfl, trivial⟩) ?_
        exact f243_185_j47_pq hB hq
      · rw [h6, cond_false] at hq
        refine pq_s hB 2 (pc' := 27) (L' := [(1, .int v1), (0, .ref 185)]) (st' := [.int 9, .int v1]) (I' := I1) (J' := J1) (by with_unfolding_all rfl) ?_
        refine pq_icn hB rfl (fun h7 => ?_) (fun h7 => ?_)
        · rw [h7, cond_true] at hq
          refine pq_perm (L := [(0, .ref 185), (1, .int v1)]) (leqn_of ⟨rfl, rfl, trivial⟩ ⟨rfl, rfl, trivial⟩ ⟨rfl, rfl, trivial⟩) ?_
          exact f243_185_j47_pq hB hq
        · rw [h7, cond_false] at hq
          refine pq_s hB 4 (pc' := 38) (L' := [(1, .int v1), (0, .ref 185)]) (st' := [.int (I1 186 2480)]) (I' := I1) (J' := J1) (by with_unfolding_all rfl) ?_
          refine pq_ifn hB rfl (fun h8 => ?_) (fun h8 => ?_)
          · rw [h8, cond_true] at hq
            refine pq_perm (L := [(0, .ref 185), (1, .int v1)]) (leqn_of ⟨rfl, rfl, trivial⟩ ⟨rfl, rfl, trivial⟩ ⟨rfl, rfl, trivial⟩) ?_
            exact f243_185_j47_pq hB hq
          · rw [h8, cond_false] at hq
            refine pq_s hB 2 (pc' := 43) (L' := [(1, .int v1), (0, .ref 185)]) (st' := [.int 2, .ref 185]) (I' := I1) (J' := J1) (by with_unfolding_all rfl) ?_
            generalize hc9 : f225_185 I1 J1 2 = q9 at hq
            obtain ⟨v9, _, _⟩ := q9
            dsimp only at hq
            refine pq_1 rfl rfl rfl rfl (f225_185_pq hB hc9) ?_
            rintro _ I9 J9 ⟨rfl, rfl, rfl⟩
            subst hq
            exact pq_2i (x := v9) rfl ⟨_, rfl, rfl⟩
-- LPModel.scene, the loop at 31, to [50]
def f244_185_l31 (N : Nat) : Nat → tI → tJ → Int32 → Option (Int32 × tI × tJ)
  | 0, _, _, _ => none
  | k + 1, I, J, x2 =>
    bif xcmp .eq x2 0 then some (x2, I, J) else bif xcmp .eq (I 185 12) 0 then some (x2, I, J) else (match f243_185 N I J with | none => none | some (v6, I6, J6) => f244_185_l31 N k I6 J6 v6)
set_option maxRecDepth 100000 in
theorem f244_185_l31_pq {sc : List Int32} {B : xM} {N : Nat} {P : Option Value → tI → tJ → Prop} (hB : kB pT B) : ∀ (k : Nat), k ≤ N → ∀ (b m : Nat), b ≤ k → b ≤ m → ∀ {I : tI} {J : tJ} {x2 : Int32} {Y : Option (Int32 × tI × tJ)}, f244_185_l31 N k I J x2 = Y → (∀ {y2 : Int32} {I1 : tI} {J1 : tJ}, Y = some (y2, I1, J1) → pq sc B m (xt_244, 4, 1) 50 [(0, .ref 185), (2, .int y2)] [] I1 J1 P) → pq sc B b (xt_244, 4, 1) 31 [(0, .ref 185), (2, .int x2)] [] I J P
  | 0, _, b, _, hb, _, _, _, _, _, _, _ => by
    have e : b = 0 := by omega
    subst e
    exact pq_zero
  | _ + 1, _, 0, _, _, _, _, _, _, _, _, _ => pq_zero
  | k + 1, hk, b + 1, m, hb, hm, I, J, x2, Y, hq, hx0 => by
    unfold f244_185_l31 at hq
    have hle : b ≤ N := by omega
    refine pq_s1 hB 0 (pc' := 32) (L' := [(0, .ref 185), (2, .int x2)]) (st' := [.int x2]) (I' := I) (J' := J) (by with_unfolding_all rfl) ?_
    refine pq_ifn hB rfl (fun h4 => ?_) (fun h4 => ?_)
    · rw [h4, cond_true] at hq
      exact pq_le (by omega) (hx0 hq.symm)
    · rw [h4, cond_false] at hq
      refine pq_s hB 2 (pc' := 39) (L' := [(0, .ref 185), (2, .int x2)]) (st' := [.int (I 185 12)]) (I' := I) (J' := J) (by with_unfolding_all rfl) ?_
      refine pq_ifn hB rfl (fun h5 => ?_) (fun h5 => ?_)
      · rw [h5, cond_true] at hq
        exact pq_le (by omega) (hx0 hq.symm)
      · rw [h5, cond_false] at hq
        refine pq_s hB 1 (pc' := 43) (L' := [(0, .ref 185), (2, .int x2)]) (st' := [.ref 185]) (I' := I) (J' := J) (by with_unfolding_all rfl) ?_
        refine pq_1 rfl rfl rfl rfl (pq_le hle (f243_185_pq hB rfl)) ?_
        rintro _ I6 J6 ⟨v6, rfl, hc6⟩
        rw [hc6] at hq
        dsimp only at hq
        refine pq_s hB 2 (pc' := 31) (L' := [(2, .int v6), (0, .ref 185)]) (st' := []) (I' := I6) (J' := J6) (by with_unfolding_all rfl) ?_
        refine pq_perm (L := [(0, .ref 185), (2, .int v6)]) (leqn_of ⟨rfl, rfl, trivial⟩ ⟨rfl, rfl, trivial⟩ ⟨rfl, rfl, trivial⟩) ?_
        exact f244_185_l31_pq hB k (by omega) b m (by omega) (by omega) hq hx0
-- LPModel.gives
def f206_185 (I : tI) (J : tJ) (a0 : Int32) : Int32 × tI × tJ :=
  (a0, (tup I 185 2 0), J)
set_option maxRecDepth 100000 in
theorem f206_185_pq {sc : List Int32} {B : xM} {n : Nat} {I : tI} {J : tJ} {a0 : Int32} (hB : kB pT B) : ∀ {q : Int32 × tI × tJ}, f206_185 I J a0 = q → pq sc B n (xt_206, 2, 1) 0 [(0, .ref 185), (1, .int a0)] [] I J (fun v I1 J1 => v = some (.int q.1) ∧ I1 = q.2.1 ∧ J1 = q.2.2) := by
  intro q hq
  unfold f206_185 at hq
  refine pq_s hB 4 (pc' := 6) (L' := [(0, .ref 185), (1, .int a0)]) (st' := [.int a0]) (I' := (tup I 185 2 0)) (J' := J) (by with_unfolding_all rfl) ?_
  subst hq
  exact pq_2i (x := a0) rfl ⟨rfl, rfl, rfl⟩
-- LPModel.refuse
def f205_185 (I : tI) (J : tJ) (a0 : Int32) : Int32 × tI × tJ :=
  ((-1), (tup I 185 2 a0), J)
set_option maxRecDepth 100000 in
theorem f205_185_pq {sc : List Int32} {B : xM} {n : Nat} {I : tI} {J : tJ} {a0 : Int32} (hB : kB pT B) : ∀ {q : Int32 × tI × tJ}, f205_185 I J a0 = q → pq sc B n (xt_205, 2, 1) 0 [(0, .ref 185), (1, .int a0)] [] I J (fun v I1 J1 => v = some (.int q.1) ∧ I1 = q.2.1 ∧ J1 = q.2.2) := by
  intro q hq
  unfold f205_185 at hq
  refine pq_s hB 4 (pc' := 6) (L' := [(0, .ref 185), (1, .int a0)]) (st' := [.int (-1)]) (I' := (tup I 185 2 a0)) (J' := J) (by with_unfolding_all rfl) ?_
  subst hq
  exact pq_2i (x := (-1)) rfl ⟨rfl, rfl, rfl⟩
-- LPModel.taken
def f234_185 (I : tI) (J : tJ) (a0 : Int32) : Int32 × tI × tJ :=
  bif xcmp .le (I 185 18) 0 then (match f206_185 (tup I 185 16 (I 185 18)) J a0 with | (v2, I2, J2) => (v2, I2, J2)) else (match f205_185 (tup I 185 16 (I 185 18)) J 9 with | (v3, I3, J3) => (v3, I3, J3))
set_option maxRecDepth 100000 in
theorem f234_185_pq {sc : List Int32} {B : xM} {n : Nat} {I : tI} {J : tJ} {a0 : Int32} (hB : kB pT B) : ∀ {q : Int32 × tI × tJ}, f234_185 I J a0 = q → pq sc B n (xt_234, 2, 1) 0 [(0, .ref 185), (1, .int a0)] [] I J (fun v I1 J1 => v = some (.int q.1) ∧ I1 = q.2.1 ∧ J1 = q.2.2) := by
  intro q hq
  unfold f234_185 at hq
  refine pq_s hB 6 (pc' := 12) (L' := [(0, .ref 185), (1, .int a0)]) (st' := [.int (I 185 18)]) (I' := (tup I 185 16 (I 185 18))) (J' := J) (by with_unfolding_all rfl) ?_
  refine pq_ifn hB rfl (fun h1 => ?_) (fun h1 => ?_)
  · rw [h1, cond_true] at hq
    refine pq_s hB 2 (pc' := 26) (L' := [(0, .ref 185), (1, .int a0)]) (st' := [.int a0, .ref 185]) (I' := (tup I 185 16 (I 185 18))) (J' := J) (by with_unfolding_all rfl) ?_
    generalize hc2 : f206_185 (tup I 185 16 (I 185 18)) J a0 = q2 at hq
    obtain ⟨v2, _, _⟩ := q2
    dsimp only at hq
    refine pq_1 rfl rfl rfl rfl (f206_185_pq hB hc2) ?_
    rintro _ I2 J2 ⟨rfl, rfl, rfl⟩
    subst hq
    exact pq_2i (x := v2) rfl ⟨rfl, rfl, rfl⟩
  · rw [h1, cond_false] at hq
    refine pq_s hB 2 (pc' := 18) (L' := [(0, .ref 185), (1, .int a0)]) (st' := [.int 9, .ref 185]) (I' := (tup I 185 16 (I 185 18))) (J' := J) (by with_unfolding_all rfl) ?_
    generalize hc3 : f205_185 (tup I 185 16 (I 185 18)) J 9 = q3 at hq
    obtain ⟨v3, _, _⟩ := q3
    dsimp only at hq
    refine pq_1 rfl rfl rfl rfl (f205_185_pq hB hc3) ?_
    rintro _ I3 J3 ⟨rfl, rfl, rfl⟩
    refine pq_s hB 1 (pc' := 29) (L' := [(0, .ref 185), (1, .int a0)]) (st' := [.int v3]) (I' := I3) (J' := J3) (by with_unfolding_all rfl) ?_
    subst hq
    exact pq_2i (x := v3) rfl ⟨rfl, rfl, rfl⟩
-- LPModel.scene, the loop at 59, to [88]
def f244_185_l59 (N : Nat) : Nat → tI → tJ → Int32 → Option (Int32 × tI × tJ)
  | 0, _, _, _ => none
  | k + 1, I, J, x3 =>
    bif xcmp .ge x3 620 then some (x3, I, J) else f244_185_l59 N k (tup I 186 ((x3).toNatClampNeg) (I 186 ((2480 + x3)).toNatClampNeg)) J (x3 + 1)
set_option maxRecDepth 100000 in
theorem f244_185_l59_pq {sc : List Int32} {B : xM} {N : Nat} {P : Option Value → tI → tJ → Prop} (hB : kB pT B) : ∀ (k : Nat), k ≤ N → ∀ (b m : Nat), b ≤ k → b ≤ m → ∀ {I : tI} {J : tJ} {x3 : Int32} {Y : Option (Int32 × tI × tJ)}, f244_185_l59 N k I J x3 = Y → (∀ {y3 : Int32} {I1 : tI} {J1 : tJ}, Y = some (y3, I1, J1) → pq sc B m (xt_244, 4, 1) 88 [(0, .ref 185), (3, .int y3)] [] I1 J1 P) → pq sc B b (xt_244, 4, 1) 59 [(0, .ref 185), (3, .int x3)] [] I J P
  | 0, _, b, _, hb, _, _, _, _, _, _, _ => by
    have e : b = 0 := by omega
    subst e
    exact pq_zero
  | _ + 1, _, 0, _, _, _, _, _, _, _, _, _ => pq_zero
  | k + 1, hk, b + 1, m, hb, hm, I, J, x3, Y, hq, hx0 => by
    unfold f244_185_l59 at hq
    have hle : b ≤ N := by omega
    refine pq_s1 hB 1 (pc' := 63) (L' := [(0, .ref 185), (3, .int x3)]) (st' := [.int 620, .int x3]) (I' := I) (J' := J) (by with_unfolding_all rfl) ?_
    refine pq_icn hB rfl (fun h7 => ?_) (fun h7 => ?_)
    · rw [h7, cond_true] at hq
      exact pq_le (by omega) (hx0 hq.symm)
    · rw [h7, cond_false] at hq
      refine pq_s hB 12 (pc' := 59) (L' := [(3, .int (x3 + 1)), (0, .ref 185)]) (st' := []) (I' := (tup I 186 ((x3).toNatClampNeg) (I 186 ((2480 + x3)).toNatClampNeg))) (J' := J) (by with_unfolding_all rfl) ?_
      refine pq_perm (L := [(0, .ref 185), (3, .int (x3 + 1))]) (leqn_of ⟨rfl, rfl, trivial⟩ ⟨rfl, rfl, trivial⟩ ⟨rfl, rfl, trivial⟩) ?_
      exact f244_185_l59_pq hB k (by omega) b m (by omega) (by omega) hq hx0
-- LPModel.scene, the loop at 90, to [117]
def f244_185_l90 (N : Nat) : Nat → tI → tJ → Int32 → Option (Int32 × tI × tJ)
  | 0, _, _, _ => none
  | k + 1, I, J, x3 =>
    bif xcmp .ge x3 15 then some (x3, I, J) else f244_185_l90 N k I (tup J 187 ((x3).toNatClampNeg) (J 187 ((60 + x3)).toNatClampNeg)) (x3 + 1)
set_option maxRecDepth 100000 in
theorem f244_185_l90_pq {sc : List Int32} {B : xM} {N : Nat} {P : Option Value → tI → tJ → Prop} (hB : kB pT B) : ∀ (k : Nat), k ≤ N → ∀ (b m : Nat), b ≤ k → b ≤ m → ∀ {I : tI} {J : tJ} {x3 : Int32} {Y : Option (Int32 × tI × tJ)}, f244_185_l90 N k I J x3 = Y → (∀ {y3 : Int32} {I1 : tI} {J1 : tJ}, Y = some (y3, I1, J1) → pq sc B m (xt_244, 4, 1) 117 [(0, .ref 185), (3, .int y3)] [] I1 J1 P) → pq sc B b (xt_244, 4, 1) 90 [(0, .ref 185), (3, .int x3)] [] I J P
  | 0, _, b, _, hb, _, _, _, _, _, _, _ => by
    have e : b = 0 := by omega
    subst e
    exact pq_zero
  | _ + 1, _, 0, _, _, _, _, _, _, _, _, _ => pq_zero
  | k + 1, hk, b + 1, m, hb, hm, I, J, x3, Y, hq, hx0 => by
    unfold f244_185_l90 at hq
    have hle : b ≤ N := by omega
    refine pq_s1 hB 1 (pc' := 93) (L' := [(0, .ref 185), (3, .int x3)]) (st' := [.int 15, .int x3]) (I' := I) (J' := J) (by with_unfolding_all rfl) ?_
    refine pq_icn hB rfl (fun h8 => ?_) (fun h8 => ?_)
    · rw [h8, cond_true] at hq
      exact pq_le (by omega) (hx0 hq.symm)
    · rw [h8, cond_false] at hq
      refine pq_s hB 12 (pc' := 90) (L' := [(3, .int (x3 + 1)), (0, .ref 185)]) (st' := []) (I' := I) (J' := (tup J 187 ((x3).toNatClampNeg) (J 187 ((60 + x3)).toNatClampNeg))) (by with_unfolding_all rfl) ?_
      refine pq_perm (L := [(0, .ref 185), (3, .int (x3 + 1))]) (leqn_of ⟨rfl, rfl, trivial⟩ ⟨rfl, rfl, trivial⟩ ⟨rfl, rfl, trivial⟩) ?_
      exact f244_185_l90_pq hB k (by omega) b m (by omega) (by omega) hq hx0
-- LPModel.scene, from 50 on
def f244_185_j50 (N : Nat) (I : tI) (J : tJ) : Option (Int32 × tI × tJ) :=
  bif xcmp .ne (I 185 18) 0 then (match f234_185 I J (I 186 3) with | (v6, I6, J6) => some (v6, I6, J6)) else (match f244_185_l59 N N I J 0 with | none => none | some (y7_3, I7, J7) => (match f244_185_l90 N N I7 J7 0 with | none => none | some (y8_3, I8, J8) => (match f234_185 I8 J8 (I8 186 3) with | (v9, I9, J9) => some (v9, I9, J9))))
set_option maxRecDepth 100000 in
theorem f244_185_j50_pq {sc : List Int32} {B : xM} {N : Nat} {I : tI} {J : tJ} (hB : kB pT B) : ∀ {X : Option (Int32 × tI × tJ)}, f244_185_j50 N I J = X → pq sc B N (xt_244, 4, 1) 50 [(0, .ref 185)] [] I J (fun v I1 J1 => ∃ a, v = some (.int a) ∧ X = some (a, I1, J1)) := by
  intro X hq
  unfold f244_185_j50 at hq
  have hle : N ≤ N := Nat.le_refl N
  refine pq_s hB 2 (pc' := 54) (L' := [(0, .ref 185)]) (st' := [.int (I 185 18)]) (I' := I) (J' := J) (by with_unfolding_all rfl) ?_
  refine pq_ifn hB rfl (fun h5 => ?_) (fun h5 => ?_)
  · rw [h5, cond_true] at hq
    refine pq_s hB 5 (pc' := 124) (L' := [(0, .ref 185)]) (st' := [.int (I 186 3), .ref 185]) (I' := I) (J' := J) (by with_unfolding_all rfl) ?_
    generalize hc6 : f234_185 I J (I 186 3) = q6 at hq
    obtain ⟨v6, _, _⟩ := q6
    dsimp only at hq
    refine pq_1 rfl rfl rfl rfl (f234_185_pq hB hc6) ?_
    rintro _ I6 J6 ⟨rfl, rfl, rfl⟩
    subst hq
    exact pq_2i (x := v6) rfl ⟨_, rfl, rfl⟩
  · rw [h5, cond_false] at hq
    refine pq_s hB 2 (pc' := 59) (L' := [(3, .int 0), (0, .ref 185)]) (st' := []) (I' := I) (J' := J) (by with_unfolding_all rfl) ?_
    refine pq_perm (L := [(0, .ref 185), (3, .int 0)]) (leqn_of ⟨rfl, rfl, trivial⟩ ⟨rfl, rfl, trivial⟩ ⟨rfl, rfl, trivial⟩) ?_
    refine f244_185_l59_pq hB N (Nat.le_refl N) N N hle (Nat.le_refl N) rfl ?_
    intro y7_3 I7 J7 hc7
    rw [hc7] at hq
    dsimp only at hq
    refine pq_s hB 2 (pc' := 90) (L' := [(3, .int 0), (0, .ref 185)]) (st' := []) (I' := I7) (J' := J7) (by with_unfolding_all rfl) ?_
    refine pq_perm (L := [(0, .ref 185), (3, .int 0)]) (leqn_of ⟨rfl, rfl, trivial⟩ ⟨rfl, rfl, trivial⟩ ⟨rfl, rfl, trivial⟩) ?_
    refine f244_185_l90_pq hB N (Nat.le_refl N) N N hle (Nat.le_refl N) rfl ?_
    intro y8_3 I8 J8 hc8
    rw [hc8] at hq
    dsimp only at hq
    refine pq_s hB 5 (pc' := 124) (L' := [(0, .ref 185), (3, .int y8_3)]) (st' := [.int (I8 186 3), .ref 185]) (I' := I8) (J' := J8) (by with_unfolding_all rfl) ?_
    generalize hc9 : f234_185 I8 J8 (I8 186 3) = q9 at hq
    obtain ⟨v9, _, _⟩ := q9
    dsimp only at hq
    refine pq_1 rfl rfl rfl rfl (f234_185_pq hB hc9) ?_
    rintro _ I9 J9 ⟨rfl, rfl, rfl⟩
    subst hq
    exact pq_2i (x := v9) rfl ⟨_, rfl, rfl⟩
-- LPModel.scene
def f244_185 (N : Nat) (I : tI) (J : tJ) (a0 : Int32) : Option (Int32 × tI × tJ) :=
  (match f226_185 N I J a0 900 with | none => none | some (v1, I1, J1) => bif xcmp .ne v1 0 then (match f200_185 N I1 J1 2480 with | none => none | some (_, I3, J3) => (match f244_185_l31 N N (tup I3 185 20 0) J3 1 with | none => none | some (y4_2, I4, J4) => f244_185_j50 N I4 J4)) else (match f205_185 I1 J1 1 with | (v5, I5, J5) => some (v5, I5, J5)))
set_option maxRecDepth 100000 in
theorem f244_185_pq {sc : List Int32} {B : xM} {N : Nat} {I : tI} {J : tJ} {a0 : Int32} (hB : kB pT B) : ∀ {X : Option (Int32 × tI × tJ)}, f244_185 N I J a0 = X → pq sc B N (xt_244, 4, 1) 0 [(0, .ref 185), (1, .int a0)] [] I J (fun v I1 J1 => ∃ a, v = some (.int a) ∧ X = some (a, I1, J1)) := by
  intro X hq
  unfold f244_185 at hq
  have hle : N ≤ N := Nat.le_refl N
  refine pq_s hB 3 (pc' := 5) (L' := [(0, .ref 185), (1, .int a0)]) (st' := [.int 900, .int a0, .ref 185]) (I' := I) (J' := J) (by with_unfolding_all rfl) ?_
  refine pq_1 rfl rfl rfl rfl (pq_le hle (f226_185_pq hB rfl)) ?_
  rintro _ I1 J1 ⟨v1, rfl, hc1⟩
  rw [hc1] at hq
  dsimp only at hq
  refine pq_ifn hB rfl (fun h2 => ?_) (fun h2 => ?_)
  · rw [h2, cond_true] at hq
    refine pq_s hB 2 (pc' := 21) (L' := [(0, .ref 185), (1, .int a0)]) (st' := [.int 2480, .ref 185]) (I' := I1) (J' := J1) (by with_unfolding_all rfl) ?_
    refine pq_1 rfl rfl rfl rfl (pq_le hle (f200_185_pq hB rfl)) ?_
    rintro _ I3 J3 ⟨rfl, hc3⟩
    rw [hc3] at hq
    dsimp only at hq
    refine pq_s hB 5 (pc' := 31) (L' := [(2, .int 1), (0, .ref 185), (1, .int a0)]) (st' := []) (I' := (tup I3 185 20 0)) (J' := J3) (by with_unfolding_all rfl) ?_
    refine pq_perm (L := [(0, .ref 185), (2, .int 1)]) (leqn_of ⟨rfl, rfl, trivial⟩ ⟨rfl, rfl, trivial⟩ ⟨rfl, rfl, rfl, trivial⟩) ?_
    refine f244_185_l31_pq hB N (Nat.le_refl N) N N hle (Nat.le_refl N) rfl ?_
    intro y4_2 I4 J4 hc4
    rw [hc4] at hq
    dsimp only at hq
    refine pq_perm (L := [(0, .ref 185)]) (leqn_of ⟨rfl, trivial⟩ ⟨rfl, trivial⟩ ⟨rfl, rfl, trivial⟩) ?_
    exact f244_185_j50_pq hB hq
  · rw [h2, cond_false] at hq
    refine pq_s hB 2 (pc' := 13) (L' := [(0, .ref 185), (1, .int a0)]) (st' := [.int 1, .ref 185]) (I' := I1) (J' := J1) (by with_unfolding_all rfl) ?_
    generalize hc5 : f205_185 I1 J1 1 = q5 at hq
    obtain ⟨v5, _, _⟩ := q5
    dsimp only at hq
    refine pq_1 rfl rfl rfl rfl (f205_185_pq hB hc5) ?_
    rintro _ I5 J5 ⟨rfl, rfl, rfl⟩
    subst hq
    exact pq_2i (x := v5) rfl ⟨_, rfl, rfl⟩
-- LP$Runs.forget
def f71_61 (I : tI) (J : tJ) : Unit × tI × tJ :=
  ((), (tup (tup (tup I 61 0 0) 61 1 0) 61 2 0), J)
set_option maxRecDepth 100000 in
theorem f71_61_pq {sc : List Int32} {B : xM} {n : Nat} {I : tI} {J : tJ} (hB : kB pT B) : ∀ {q : Unit × tI × tJ}, f71_61 I J = q → pq sc B n (xt_71, 1, 0) 0 [(0, .ref 61)] [] I J (fun v I1 J1 => v = none ∧ I1 = q.2.1 ∧ J1 = q.2.2) := by
  intro q hq
  unfold f71_61 at hq
  refine pq_s hB 9 (pc' := 15) (L' := [(0, .ref 61)]) (st' := []) (I' := (tup (tup (tup I 61 0 0) 61 1 0) 61 2 0)) (J' := J) (by with_unfolding_all rfl) ?_
  subst hq
  exact pq_2 (v := none) rfl rfl (by with_unfolding_all rfl) ⟨rfl, rfl, rfl⟩
-- LP$RunReader.mayBegin, from 72 on
def f52_60_j72 (I : tI) (J : tJ) (x1 : Int32) : Int32 × tI × tJ :=
  bif xcmp .lt (I 61 1) 30 then (bif xcmp .eq x1 0 then (1, I, J) else bif xcmp .lt (I 60 3) 3 then (1, I, J) else (match f33_8 I J 7 with | (v6, I6, J6) => bif xcmp .eq v6 0 then (0, I6, J6) else (1, I6, J6))) else (match f33_8 I J 6 with | (v8, I8, J8) => (v8, I8, J8))
set_option maxRecDepth 100000 in
theorem f52_60_j72_pq {sc : List Int32} {B : xM} {n : Nat} {I : tI} {J : tJ} {x1 : Int32} (hB : kB pT B) : ∀ {q : Int32 × tI × tJ}, f52_60_j72 I J x1 = q → pq sc B n (xt_52, 2, 3) 72 [(0, .ref 60), (1, .int x1)] [] I J (fun v I1 J1 => v = some (.int q.1) ∧ I1 = q.2.1 ∧ J1 = q.2.2) := by
  intro q hq
  unfold f52_60_j72 at hq
  refine pq_s hB 4 (pc' := 81) (L' := [(0, .ref 60), (1, .int x1)]) (st' := [.int 30, .int (I 61 1)]) (I' := I) (J' := J) (by with_unfolding_all rfl) ?_
  refine pq_icn hB rfl (fun h3 => ?_) (fun h3 => ?_)
  · rw [h3, cond_true] at hq
    refine pq_s hB 1 (pc' := 95) (L' := [(0, .ref 60), (1, .int x1)]) (st' := [.int x1]) (I' := I) (J' := J) (by with_unfolding_all rfl) ?_
    refine pq_ifn hB rfl (fun h4 => ?_) (fun h4 => ?_)
    · rw [h4, cond_true] at hq
      refine pq_s hB 2 (pc' := 123) (L' := [(0, .ref 60), (1, .int x1)]) (st' := [.int 1]) (I' := I) (J' := J) (by with_unfolding_all rfl) ?_
      subst hq
      exact pq_2i (x := 1) rfl ⟨rfl, rfl, rfl⟩
    · rw [h4, cond_false] at hq
      refine pq_s hB 3 (pc' := 103) (L' := [(0, .ref 60), (1, .int x1)]) (st' := [.int 3, .int (I 60 3)]) (I' := I) (J' := J) (by with_unfolding_all rfl) ?_
      refine pq_icn hB rfl (fun h5 => ?_) (fun h5 => ?_)
      · rw [h5, cond_true] at hq
        refine pq_s hB 2 (pc' := 123) (L' := [(0, .ref 60), (1, .int x1)]) (st' := [.int 1]) (I' := I) (J' := J) (by with_unfolding_all rfl) ?_
        subst hq
        exact pq_2i (x := 1) rfl ⟨rfl, rfl, rfl⟩
      · rw [h5, cond_false] at hq
        refine pq_s hB 3 (pc' := 112) (L' := [(0, .ref 60), (1, .int x1)]) (st' := [.int 7, .ref 8]) (I' := I) (J' := J) (by with_unfolding_all rfl) ?_
        generalize hc6 : f33_8 I J 7 = q6 at hq
        obtain ⟨v6, _, _⟩ := q6
        dsimp only at hq
        refine pq_1 rfl rfl rfl rfl (f33_8_pq hB hc6) ?_
        rintro _ I6 J6 ⟨rfl, rfl, rfl⟩
        refine pq_ifn hB rfl (fun h7 => ?_) (fun h7 => ?_)
        · rw [h7, cond_true] at hq
          refine pq_s hB 1 (pc' := 123) (L' := [(0, .ref 60), (1, .int x1)]) (st' := [.int 0]) (I' := I6) (J' := J6) (by with_unfolding_all rfl) ?_
          subst hq
          exact pq_2i (x := 0) rfl ⟨rfl, rfl, rfl⟩
        · rw [h7, cond_false] at hq
          refine pq_s hB 2 (pc' := 123) (L' := [(0, .ref 60), (1, .int x1)]) (st' := [.int 1]) (I' := I6) (J' := J6) (by with_unfolding_all rfl) ?_
          subst hq
          exact pq_2i (x := 1) rfl ⟨rfl, rfl, rfl⟩
  · rw [h3, cond_false] at hq
    refine pq_s hB 3 (pc' := 90) (L' := [(0, .ref 60), (1, .int x1)]) (st' := [.int 6, .ref 8]) (I' := I) (J' := J) (by with_unfolding_all rfl) ?_
    generalize hc8 : f33_8 I J 6 = q8 at hq
    obtain ⟨v8, _, _⟩ := q8
    dsimp only at hq
    refine pq_1 rfl rfl rfl rfl (f33_8_pq hB hc8) ?_
    rintro _ I8 J8 ⟨rfl, rfl, rfl⟩
    subst hq
    exact pq_2i (x := v8) rfl ⟨rfl, rfl, rfl⟩
-- LP$RunReader.mayBegin, from 29 on
def f52_60_j29 (I : tI) (J : tJ) (s0 : Int32) : Int32 × tI × tJ :=
  bif xcmp .ne s0 0 then f52_60_j72 I J s0 else bif xcmp .eq (I 8 5) 30 then f52_60_j72 I J s0 else (match f127 I J (I 8 5) 21 24 with | (v4, I4, J4) => bif xcmp .ne v4 0 then f52_60_j72 I4 J4 s0 else (match f33_8 I4 J4 2 with | (v6, I6, J6) => (v6, I6, J6)))
set_option maxRecDepth 100000 in
theorem f52_60_j29_pq {sc : List Int32} {B : xM} {n : Nat} {I : tI} {J : tJ} {s0 : Int32} (hB : kB pT B) : ∀ {q : Int32 × tI × tJ}, f52_60_j29 I J s0 = q → pq sc B n (xt_52, 2, 3) 29 [(0, .ref 60)] [.int s0] I J (fun v I1 J1 => v = some (.int q.1) ∧ I1 = q.2.1 ∧ J1 = q.2.2) := by
  intro q hq
  unfold f52_60_j29 at hq
  refine pq_s hB 2 (pc' := 31) (L' := [(1, .int s0), (0, .ref 60)]) (st' := [.int s0]) (I' := I) (J' := J) (by with_unfolding_all rfl) ?_
  refine pq_ifn hB rfl (fun h2 => ?_) (fun h2 => ?_)
  · rw [h2, cond_true] at hq
    refine pq_perm (L := [(0, .ref 60), (1, .int s0)]) (leqn_of ⟨rfl, rfl, trivial⟩ ⟨rfl, rfl, trivial⟩ ⟨rfl, rfl, trivial⟩) ?_
    exact f52_60_j72_pq hB hq
  · rw [h2, cond_false] at hq
    refine pq_s hB 4 (pc' := 43) (L' := [(1, .int s0), (0, .ref 60)]) (st' := [.int 30, .int (I 8 5)]) (I' := I) (J' := J) (by with_unfolding_all rfl) ?_
    refine pq_icn hB rfl (fun h3 => ?_) (fun h3 => ?_)
    · rw [h3, cond_true] at hq
      refine pq_perm (L := [(0, .ref 60), (1, .int s0)]) (leqn_of ⟨rfl, rfl, trivial⟩ ⟨rfl, rfl, trivial⟩ ⟨rfl, rfl, trivial⟩) ?_
      exact f52_60_j72_pq hB hq
    · rw [h3, cond_false] at hq
      refine pq_s hB 5 (pc' := 57) (L' := [(1, .int s0), (0, .ref 60)]) (st' := [.int 24, .int 21, .int (I 8 5)]) (I' := I) (J' := J) (by with_unfolding_all rfl) ?_
      generalize hc4 : f127 I J (I 8 5) 21 24 = q4 at hq
      obtain ⟨v4, _, _⟩ := q4
      dsimp only at hq
      refine pq_1 rfl rfl rfl rfl (f127_pq hB hc4) ?_
      rintro _ I4 J4 ⟨rfl, rfl, rfl⟩
      refine pq_ifn hB rfl (fun h5 => ?_) (fun h5 => ?_)
      · rw [h5, cond_true] at hq
        refine pq_perm (L := [(0, .ref 60), (1, .int s0)]) (leqn_of ⟨rfl, rfl, trivial⟩ ⟨rfl, rfl, trivial⟩ ⟨rfl, rfl, trivial⟩) ?_
        exact f52_60_j72_pq hB hq
      · rw [h5, cond_false] at hq
        refine pq_s hB 3 (pc' := 68) (L' := [(1, .int s0), (0, .ref 60)]) (st' := [.int 2, .ref 8]) (I' := I4) (J' := J4) (by with_unfolding_all rfl) ?_
        generalize hc6 : f33_8 I4 J4 2 = q6 at hq
        obtain ⟨v6, _, _⟩ := q6
        dsimp only at hq
        refine pq_1 rfl rfl rfl rfl (f33_8_pq hB hc6) ?_
        rintro _ I6 J6 ⟨rfl, rfl, rfl⟩
        subst hq
        exact pq_2i (x := v6) rfl ⟨rfl, rfl, rfl⟩
-- LP$RunReader.mayBegin, from 24 on
def f52_60_j24 (I : tI) (J : tJ) : Int32 × tI × tJ :=
  f52_60_j29 I J 1
set_option maxRecDepth 100000 in
theorem f52_60_j24_pq {sc : List Int32} {B : xM} {n : Nat} {I : tI} {J : tJ} (hB : kB pT B) : ∀ {q : Int32 × tI × tJ}, f52_60_j24 I J = q → pq sc B n (xt_52, 2, 3) 24 [(0, .ref 60)] [] I J (fun v I1 J1 => v = some (.int q.1) ∧ I1 = q.2.1 ∧ J1 = q.2.2) := by
  intro q hq
  unfold f52_60_j24 at hq
  refine pq_s hB 2 (pc' := 29) (L' := [(0, .ref 60)]) (st' := [.int 1]) (I' := I) (J' := J) (by with_unfolding_all rfl) ?_
  exact f52_60_j29_pq hB hq
-- LP$RunReader.mayBegin
def f52_60 (I : tI) (J : tJ) : Int32 × tI × tJ :=
  bif xcmp .eq (I 8 5) 25 then f52_60_j24 I J else bif xcmp .ne (I 8 5) 28 then f52_60_j29 I J 0 else f52_60_j24 I J
set_option maxRecDepth 100000 in
theorem f52_60_pq {sc : List Int32} {B : xM} {n : Nat} {I : tI} {J : tJ} (hB : kB pT B) : ∀ {q : Int32 × tI × tJ}, f52_60 I J = q → pq sc B n (xt_52, 2, 3) 0 [(0, .ref 60)] [] I J (fun v I1 J1 => v = some (.int q.1) ∧ I1 = q.2.1 ∧ J1 = q.2.2) := by
  intro q hq
  unfold f52_60 at hq
  refine pq_s hB 4 (pc' := 9) (L' := [(0, .ref 60)]) (st' := [.int 25, .int (I 8 5)]) (I' := I) (J' := J) (by with_unfolding_all rfl) ?_
  refine pq_icn hB rfl (fun h1 => ?_) (fun h1 => ?_)
  · rw [h1, cond_true] at hq
    exact f52_60_j24_pq hB hq
  · rw [h1, cond_false] at hq
    refine pq_s hB 4 (pc' := 21) (L' := [(0, .ref 60)]) (st' := [.int 28, .int (I 8 5)]) (I' := I) (J' := J) (by with_unfolding_all rfl) ?_
    refine pq_icn hB rfl (fun h2 => ?_) (fun h2 => ?_)
    · rw [h2, cond_true] at hq
      refine pq_s hB 1 (pc' := 29) (L' := [(0, .ref 60)]) (st' := [.int 0]) (I' := I) (J' := J) (by with_unfolding_all rfl) ?_
      exact f52_60_j29_pq hB hq
    · rw [h2, cond_false] at hq
      exact f52_60_j24_pq hB hq
-- LP$Reader.indexOf, the loop at 3, to [34, 25]
def f40_31_l3 (N : Nat) : Nat → tI → tJ → Int32 → Int64 → Int32 → Option (Nat × Int32 × Int64 × Int32 × tI × tJ)
  | 0, _, _, _, _, _ => none
  | k + 1, I, J, x1, x2, x4 =>
    bif xcmp .ge x4 x1 then some (0, x1, x2, x4, I, J) else bif xcmp .ge x4 4 then some (0, x1, x2, x4, I, J) else bif xcmp .ne (lg_cmp (J 31 (x4).toNatClampNeg) x2) 0 then f40_31_l3 N k I J x1 x2 (x4 + 1) else some (1, x1, x2, x4, I, J)
set_option maxRecDepth 100000 in
theorem f40_31_l3_pq {sc : List Int32} {B : xM} {N : Nat} {P : Option Value → tI → tJ → Prop} (hB : kB pT B) : ∀ (k : Nat), k ≤ N → ∀ (b m : Nat), b ≤ k → b ≤ m → ∀ {I : tI} {J : tJ} {x1 : Int32} {x2 : Int64} {x4 : Int32} {Y : Option (Nat × Int32 × Int64 × Int32 × tI × tJ)}, f40_31_l3 N k I J x1 x2 x4 = Y → (∀ {y1 : Int32} {y2 : Int64} {y4 : Int32} {I1 : tI} {J1 : tJ}, Y = some (0, y1, y2, y4, I1, J1) → pq sc B m (xt_40, 5, 1) 34 [(0, .ref 31), (1, .int y1), (2, .long y2), (4, .int y4)] [] I1 J1 P) → (∀ {y1 : Int32} {y2 : Int64} {y4 : Int32} {I1 : tI} {J1 : tJ}, Y = some (1, y1, y2, y4, I1, J1) → pq sc B m (xt_40, 5, 1) 25 [(0, .ref 31), (1, .int y1), (2, .long y2), (4, .int y4)] [] I1 J1 P) → pq sc B b (xt_40, 5, 1) 3 [(0, .ref 31), (1, .int x1), (2, .long x2), (4, .int x4)] [] I J P
  | 0, _, b, _, hb, _, _, _, _, _, _, _, _, _, _ => by
    have e : b = 0 := by omega
    subst e
    exact pq_zero
  | _ + 1, _, 0, _, _, _, _, _, _, _, _, _, _, _, _ => pq_zero
  | k + 1, hk, b + 1, m, hb, hm, I, J, x1, x2, x4, Y, hq, hx0, hx1 => by
    unfold f40_31_l3 at hq
    have hle : b ≤ N := by omega
    refine pq_s1 hB 1 (pc' := 6) (L' := [(0, .ref 31), (1, .int x1), (2, .long x2), (4, .int x4)]) (st' := [.int x1, .int x4]) (I' := I) (J' := J) (by with_unfolding_all rfl) ?_
    refine pq_icn hB rfl (fun h1 => ?_) (fun h1 => ?_)
    · rw [h1, cond_true] at hq
      exact pq_le (by omega) (hx0 hq.symm)
    · rw [h1, cond_false] at hq
      refine pq_s hB 3 (pc' := 13) (L' := [(0, .ref 31), (1, .int x1), (2, .long x2), (4, .int x4)]) (st' := [.int 4, .int x4]) (I' := I) (J' := J) (by with_unfolding_all rfl) ?_
      refine pq_icn hB rfl (fun h2 => ?_) (fun h2 => ?_)
      · rw [h2, cond_true] at hq
        exact pq_le (by omega) (hx0 hq.symm)
      · rw [h2, cond_false] at hq
        refine pq_s hB 5 (pc' := 22) (L' := [(0, .ref 31), (1, .int x1), (2, .long x2), (4, .int x4)]) (st' := [.int (lg_cmp (J 31 (x4).toNatClampNeg) x2)]) (I' := I) (J' := J) (by with_unfolding_all rfl) ?_
        refine pq_ifn hB rfl (fun h3 => ?_) (fun h3 => ?_)
        · rw [h3, cond_true] at hq
          refine pq_s hB 2 (pc' := 3) (L' := [(4, .int (x4 + 1)), (0, .ref 31), (1, .int x1), (2, .long x2)]) (st' := []) (I' := I) (J' := J) (by with_unfolding_all rfl) ?_
          refine pq_perm (L := [(0, .ref 31), (1, .int x1), (2, .long x2), (4, .int (x4 + 1))]) (leqn_of ⟨rfl, rfl, rfl, rfl, trivial⟩ ⟨rfl, rfl, rfl, rfl, trivial⟩ ⟨rfl, rfl, rfl, rfl, trivial⟩) ?_
          exact f40_31_l3_pq hB k (by omega) b m (by omega) (by omega) hq hx0 hx1
        · rw [h3, cond_false] at hq
          exact pq_le (by omega) (hx1 hq.symm)
-- LP$Reader.indexOf
def f40_31 (N : Nat) (I : tI) (J : tJ) (a0 : Int32) (a1 : Int64) : Option (Int32 × tI × tJ) :=
  (match f40_31_l3 N N I J a0 a1 0 with | none => none | some (k1, y1_1, y1_2, y1_4, I1, J1) => bif Nat.beq k1 0 then (some ((-1), I1, J1)) else some (y1_4, I1, J1))
set_option maxRecDepth 100000 in
theorem f40_31_pq {sc : List Int32} {B : xM} {N : Nat} {I : tI} {J : tJ} {a0 : Int32} {a1 : Int64} (hB : kB pT B) : ∀ {X : Option (Int32 × tI × tJ)}, f40_31 N I J a0 a1 = X → pq sc B N (xt_40, 5, 1) 0 [(0, .ref 31), (1, .int a0), (2, .long a1)] [] I J (fun v I1 J1 => ∃ a, v = some (.int a) ∧ X = some (a, I1, J1)) := by
  intro X hq
  unfold f40_31 at hq
  have hle : N ≤ N := Nat.le_refl N
  refine pq_s hB 2 (pc' := 3) (L' := [(4, .int 0), (0, .ref 31), (1, .int a0), (2, .long a1)]) (st' := []) (I' := I) (J' := J) (by with_unfolding_all rfl) ?_
  refine pq_perm (L := [(0, .ref 31), (1, .int a0), (2, .long a1), (4, .int 0)]) (leqn_of ⟨rfl, rfl, rfl, rfl, trivial⟩ ⟨rfl, rfl, rfl, rfl, trivial⟩ ⟨rfl, rfl, rfl, rfl, trivial⟩) ?_
  refine f40_31_l3_pq hB N (Nat.le_refl N) N N hle (Nat.le_refl N) rfl ?_ ?_
  ·
    intro y1_1 y1_2 y1_4 I1 J1 hc1
    rw [hc1] at hq
    dsimp only at hq
    rw [show Nat.beq 0 0 = true from rfl, cond_true] at hq
    refine pq_s hB 1 (pc' := 35) (L' := [(0, .ref 31), (1, .int y1_1), (2, .long y1_2), (4, .int y1_4)]) (st' := [.int (-1)]) (I' := I1) (J' := J1) (by with_unfolding_all rfl) ?_
    subst hq
    exact pq_2i (x := (-1)) rfl ⟨_, rfl, rfl⟩
  ·
    intro y1_1 y1_2 y1_4 I1 J1 hc1
    rw [hc1] at hq
    dsimp only at hq
    rw [show Nat.beq 1 0 = false from rfl, cond_false] at hq
    refine pq_s hB 1 (pc' := 27) (L' := [(0, .ref 31), (1, .int y1_1), (2, .long y1_2), (4, .int y1_4)]) (st' := [.int y1_4]) (I' := I1) (J' := J1) (by with_unfolding_all rfl) ?_
    subst hq
    exact pq_2i (x := y1_4) rfl ⟨_, rfl, rfl⟩
-- LP$Reader.isNameOf
def f39_8_31 (N : Nat) (I : tI) (J : tJ) (a0 : Int32) : Option (Int32 × tI × tJ) :=
  (match f38_8 I J with | (v1, I1, J1) => bif xcmp .ne v1 0 then (match f40_31 N I1 J1 a0 (J1 8 6) with | none => none | some (v3, I3, J3) => bif xcmp .ne v3 (-1) then some (1, (tup I3 8 8 v3), J3) else (match f33_8 (tup I3 8 8 v3) J3 3 with | (v5, I5, J5) => bif xcmp .eq v5 0 then some (0, I5, J5) else some (1, I5, J5))) else some (0, I1, J1))
set_option maxRecDepth 100000 in
theorem f39_8_31_pq {sc : List Int32} {B : xM} {N : Nat} {I : tI} {J : tJ} {a0 : Int32} (hB : kB pT B) : ∀ {X : Option (Int32 × tI × tJ)}, f39_8_31 N I J a0 = X → pq sc B N (xt_39, 3, 3) 0 [(0, .ref 8), (1, .ref 31), (2, .int a0)] [] I J (fun v I1 J1 => ∃ a, v = some (.int a) ∧ X = some (a, I1, J1)) := by
  intro X hq
  unfold f39_8_31 at hq
  have hle : N ≤ N := Nat.le_refl N
  refine pq_s hB 1 (pc' := 1) (L' := [(0, .ref 8), (1, .ref 31), (2, .int a0)]) (st' := [.ref 8]) (I' := I) (J' := J) (by with_unfolding_all rfl) ?_
  generalize hc1 : f38_8 I J = q1 at hq
  obtain ⟨v1, _, _⟩ := q1
  dsimp only at hq
  refine pq_1 rfl rfl rfl rfl (f38_8_pq hB hc1) ?_
  rintro _ I1 J1 ⟨rfl, rfl, rfl⟩
  refine pq_ifn hB rfl (fun h2 => ?_) (fun h2 => ?_)
  · rw [h2, cond_true] at hq
    refine pq_s hB 5 (pc' := 16) (L' := [(0, .ref 8), (1, .ref 31), (2, .int a0)]) (st' := [.long (J1 8 6), .int a0, .ref 31, .ref 8]) (I' := I1) (J' := J1) (by with_unfolding_all rfl) ?_
    refine pq_1 rfl rfl rfl rfl (pq_le hle (f40_31_pq hB rfl)) ?_
    rintro _ I3 J3 ⟨v3, rfl, hc3⟩
    rw [hc3] at hq
    dsimp only at hq
    refine pq_s hB 4 (pc' := 27) (L' := [(0, .ref 8), (1, .ref 31), (2, .int a0)]) (st' := [.int (-1), .int v3]) (I' := (tup I3 8 8 v3)) (J' := J3) (by with_unfolding_all rfl) ?_
    refine pq_icn hB rfl (fun h4 => ?_) (fun h4 => ?_)
    · rw [h4, cond_true] at hq
      refine pq_s hB 2 (pc' := 43) (L' := [(0, .ref 8), (1, .ref 31), (2, .int a0)]) (st' := [.int 1]) (I' := (tup I3 8 8 v3)) (J' := J3) (by with_unfolding_all rfl) ?_
      subst hq
      exact pq_2i (x := 1) rfl ⟨_, rfl, rfl⟩
    · rw [h4, cond_false] at hq
      refine pq_s hB 2 (pc' := 32) (L' := [(0, .ref 8), (1, .ref 31), (2, .int a0)]) (st' := [.int 3, .ref 8]) (I' := (tup I3 8 8 v3)) (J' := J3) (by with_unfolding_all rfl) ?_
      generalize hc5 : f33_8 (tup I3 8 8 v3) J3 3 = q5 at hq
      obtain ⟨v5, _, _⟩ := q5
      dsimp only at hq
      refine pq_1 rfl rfl rfl rfl (f33_8_pq hB hc5) ?_
      rintro _ I5 J5 ⟨rfl, rfl, rfl⟩
      refine pq_ifn hB rfl (fun h6 => ?_) (fun h6 => ?_)
      · rw [h6, cond_true] at hq
        refine pq_s hB 1 (pc' := 43) (L' := [(0, .ref 8), (1, .ref 31), (2, .int a0)]) (st' := [.int 0]) (I' := I5) (J' := J5) (by with_unfolding_all rfl) ?_
        subst hq
        exact pq_2i (x := 0) rfl ⟨_, rfl, rfl⟩
      · rw [h6, cond_false] at hq
        refine pq_s hB 2 (pc' := 43) (L' := [(0, .ref 8), (1, .ref 31), (2, .int a0)]) (st' := [.int 1]) (I' := I5) (J' := J5) (by with_unfolding_all rfl) ?_
        subst hq
        exact pq_2i (x := 1) rfl ⟨_, rfl, rfl⟩
  · rw [h2, cond_false] at hq
    refine pq_s hB 1 (pc' := 8) (L' := [(0, .ref 8), (1, .ref 31), (2, .int a0)]) (st' := [.int 0]) (I' := I1) (J' := J1) (by with_unfolding_all rfl) ?_
    subst hq
    exact pq_2i (x := 0) rfl ⟨_, rfl, rfl⟩
-- LP$Runs.add
def f73_61 (I : tI) (J : tJ) (a0 : Int32) (a1 : Int32) (a2 : Int32) : Unit × tI × tJ :=
  bif xcmp .ge (I 61 2) 60 then ((), I, J) else ((), (tup (tup (tup (tup (tup I 62 (((I 61 2)).toNatClampNeg) a0) 63 (((I 61 2)).toNatClampNeg) a1) 64 (((I 61 2)).toNatClampNeg) a2) 65 (((I 61 2)).toNatClampNeg) (-1)) 61 2 ((I 61 2) + 1)), J)
set_option maxRecDepth 100000 in
theorem f73_61_pq {sc : List Int32} {B : xM} {n : Nat} {I : tI} {J : tJ} {a0 : Int32} {a1 : Int32} {a2 : Int32} (hB : kB pT B) : ∀ {q : Unit × tI × tJ}, f73_61 I J a0 a1 a2 = q → pq sc B n (xt_73, 4, 0) 0 [(0, .ref 61), (1, .int a0), (2, .int a1), (3, .int a2)] [] I J (fun v I1 J1 => v = none ∧ I1 = q.2.1 ∧ J1 = q.2.2) := by
  intro q hq
  unfold f73_61 at hq
  refine pq_s hB 3 (pc' := 6) (L' := [(0, .ref 61), (1, .int a0), (2, .int a1), (3, .int a2)]) (st' := [.int 60, .int (I 61 2)]) (I' := I) (J' := J) (by with_unfolding_all rfl) ?_
  refine pq_icn hB rfl (fun h1 => ?_) (fun h1 => ?_)
  · rw [h1, cond_true] at hq
    subst hq
    exact pq_2 (v := none) rfl rfl (by with_unfolding_all rfl) ⟨rfl, rfl, rfl⟩
  · rw [h1, cond_false] at hq
    refine pq_s hB 30 (pc' := 59) (L' := [(0, .ref 61), (1, .int a0), (2, .int a1), (3, .int a2)]) (st' := []) (I' := (tup (tup (tup (tup (tup I 62 (((I 61 2)).toNatClampNeg) a0) 63 (((I 61 2)).toNatClampNeg) a1) 64 (((I 61 2)).toNatClampNeg) a2) 65 (((I 61 2)).toNatClampNeg) (-1)) 61 2 ((I 61 2) + 1))) (J' := J) (by with_unfolding_all rfl) ?_
    subst hq
    exact pq_2 (v := none) rfl rfl (by with_unfolding_all rfl) ⟨rfl, rfl, rfl⟩
-- LP$RunReader.readBuy
def f56_60_10 (N : Nat) (I : tI) (J : tJ) : Option (Int32 × tI × tJ) :=
  (match f39_8_31 N I J (I 10 6) with | none => none | some (v1, I1, J1) => bif xcmp .ne v1 0 then (match f25_8 N I1 J1 with | none => none | some (_, I3, J3) => (match f37_8 I3 J3 1 20 with | (v4, I4, J4) => bif xcmp .ne v4 0 then (match f73_61 I4 J4 0 (I1 8 8) (I4 8 7) with | (_, I6, J6) => (match f25_8 N I6 J6 with | none => none | some (_, I7, J7) => some (1, I7, J7))) else some (0, I4, J4))) else some (0, I1, J1))
set_option maxRecDepth 100000 in
theorem f56_60_10_pq {sc : List Int32} {B : xM} {N : Nat} {I : tI} {J : tJ} (hB : kB pT B) : ∀ {X : Option (Int32 × tI × tJ)}, f56_60_10 N I J = X → pq sc B N (xt_56, 3, 3) 0 [(0, .ref 60), (1, .ref 10)] [] I J (fun v I1 J1 => ∃ a, v = some (.int a) ∧ X = some (a, I1, J1)) := by
  intro X hq
  unfold f56_60_10 at hq
  have hle : N ≤ N := Nat.le_refl N
  refine pq_s hB 6 (pc' := 12) (L' := [(0, .ref 60), (1, .ref 10)]) (st' := [.int (I 10 6), .ref 31, .ref 8]) (I' := I) (J' := J) (by with_unfolding_all rfl) ?_
  refine pq_1 rfl rfl rfl rfl (pq_le hle (f39_8_31_pq hB rfl)) ?_
  rintro _ I1 J1 ⟨v1, rfl, hc1⟩
  rw [hc1] at hq
  dsimp only at hq
  refine pq_ifn hB rfl (fun h2 => ?_) (fun h2 => ?_)
  · rw [h2, cond_true] at hq
    refine pq_s hB 6 (pc' := 32) (L' := [(2, .int (I1 8 8)), (0, .ref 60), (1, .ref 10)]) (st' := [.ref 8]) (I' := I1) (J' := J1) (by with_unfolding_all rfl) ?_
    refine pq_1 rfl rfl rfl rfl (pq_le hle (f25_8_pq hB rfl)) ?_
    rintro _ I3 J3 ⟨rfl, hc3⟩
    rw [hc3] at hq
    dsimp only at hq
    refine pq_s hB 4 (pc' := 42) (L' := [(2, .int (I1 8 8)), (0, .ref 60), (1, .ref 10)]) (st' := [.int 20, .int 1, .ref 8]) (I' := I3) (J' := J3) (by with_unfolding_all rfl) ?_
    generalize hc4 : f37_8 I3 J3 1 20 = q4 at hq
    obtain ⟨v4, _, _⟩ := q4
    dsimp only at hq
    refine pq_1 rfl rfl rfl rfl (f37_8_pq hB hc4) ?_
    rintro _ I4 J4 ⟨rfl, rfl, rfl⟩
    refine pq_ifn hB rfl (fun h5 => ?_) (fun h5 => ?_)
    · rw [h5, cond_true] at hq
      refine pq_s hB 7 (pc' := 63) (L' := [(2, .int (I1 8 8)), (0, .ref 60), (1, .ref 10)]) (st' := [.int (I4 8 7), .int (I1 8 8), .int 0, .ref 61]) (I' := I4) (J' := J4) (by with_unfolding_all rfl) ?_
      generalize hc6 : f73_61 I4 J4 0 (I1 8 8) (I4 8 7) = q6 at hq
      obtain ⟨v6, _, _⟩ := q6
      dsimp only at hq
      refine pq_1 rfl rfl rfl rfl (f73_61_pq hB hc6) ?_
      rintro _ I6 J6 ⟨rfl, rfl, rfl⟩
      refine pq_s hB 2 (pc' := 70) (L' := [(2, .int (I1 8 8)), (0, .ref 60), (1, .ref 10)]) (st' := [.ref 8]) (I' := I6) (J' := J6) (by with_unfolding_all rfl) ?_
      refine pq_1 rfl rfl rfl rfl (pq_le hle (f25_8_pq hB rfl)) ?_
      rintro _ I7 J7 ⟨rfl, hc7⟩
      rw [hc7] at hq
      dsimp only at hq
      refine pq_s hB 1 (pc' := 74) (L' := [(2, .int (I1 8 8)), (0, .ref 60), (1, .ref 10)]) (st' := [.int 1]) (I' := I7) (J' := J7) (by with_unfolding_all rfl) ?_
      subst hq
      exact pq_2i (x := 1) rfl ⟨_, rfl, rfl⟩
    · rw [h5, cond_false] at hq
      refine pq_s hB 1 (pc' := 49) (L' := [(2, .int (I1 8 8)), (0, .ref 60), (1, .ref 10)]) (st' := [.int 0]) (I' := I4) (J' := J4) (by with_unfolding_all rfl) ?_
      subst hq
      exact pq_2i (x := 0) rfl ⟨_, rfl, rfl⟩
  · rw [h2, cond_false] at hq
    refine pq_s hB 1 (pc' := 19) (L' := [(0, .ref 60), (1, .ref 10)]) (st' := [.int 0]) (I' := I1) (J' := J1) (by with_unfolding_all rfl) ?_
    subst hq
    exact pq_2i (x := 0) rfl ⟨_, rfl, rfl⟩
-- LP$RunReader.readCounted
def f57_60 (N : Nat) (I : tI) (J : tJ) (a0 : Int32) (a1 : Int32) : Option (Int32 × tI × tJ) :=
  (match f37_8 I J 1 a1 with | (v1, I1, J1) => bif xcmp .ne v1 0 then (match f73_61 I1 J1 a0 (I1 8 7) 0 with | (_, I3, J3) => (match f25_8 N I3 J3 with | none => none | some (_, I4, J4) => some (1, I4, J4))) else some (0, I1, J1))
set_option maxRecDepth 100000 in
theorem f57_60_pq {sc : List Int32} {B : xM} {N : Nat} {I : tI} {J : tJ} {a0 : Int32} {a1 : Int32} (hB : kB pT B) : ∀ {X : Option (Int32 × tI × tJ)}, f57_60 N I J a0 a1 = X → pq sc B N (xt_57, 3, 3) 0 [(0, .ref 60), (1, .int a0), (2, .int a1)] [] I J (fun v I1 J1 => ∃ a, v = some (.int a) ∧ X = some (a, I1, J1)) := by
  intro X hq
  unfold f57_60 at hq
  have hle : N ≤ N := Nat.le_refl N
  refine pq_s hB 4 (pc' := 6) (L' := [(0, .ref 60), (1, .int a0), (2, .int a1)]) (st' := [.int a1, .int 1, .ref 8]) (I' := I) (J' := J) (by with_unfolding_all rfl) ?_
  generalize hc1 : f37_8 I J 1 a1 = q1 at hq
  obtain ⟨v1, _, _⟩ := q1
  dsimp only at hq
  refine pq_1 rfl rfl rfl rfl (f37_8_pq hB hc1) ?_
  rintro _ I1 J1 ⟨rfl, rfl, rfl⟩
  refine pq_ifn hB rfl (fun h2 => ?_) (fun h2 => ?_)
  · rw [h2, cond_true] at hq
    refine pq_s hB 7 (pc' := 27) (L' := [(0, .ref 60), (1, .int a0), (2, .int a1)]) (st' := [.int 0, .int (I1 8 7), .int a0, .ref 61]) (I' := I1) (J' := J1) (by with_unfolding_all rfl) ?_
    generalize hc3 : f73_61 I1 J1 a0 (I1 8 7) 0 = q3 at hq
    obtain ⟨v3, _, _⟩ := q3
    dsimp only at hq
    refine pq_1 rfl rfl rfl rfl (f73_61_pq hB hc3) ?_
    rintro _ I3 J3 ⟨rfl, rfl, rfl⟩
    refine pq_s hB 2 (pc' := 34) (L' := [(0, .ref 60), (1, .int a0), (2, .int a1)]) (st' := [.ref 8]) (I' := I3) (J' := J3) (by with_unfolding_all rfl) ?_
    refine pq_1 rfl rfl rfl rfl (pq_le hle (f25_8_pq hB rfl)) ?_
    rintro _ I4 J4 ⟨rfl, hc4⟩
    rw [hc4] at hq
    dsimp only at hq
    refine pq_s hB 1 (pc' := 38) (L' := [(0, .ref 60), (1, .int a0), (2, .int a1)]) (st' := [.int 1]) (I' := I4) (J' := J4) (by with_unfolding_all rfl) ?_
    subst hq
    exact pq_2i (x := 1) rfl ⟨_, rfl, rfl⟩
  · rw [h2, cond_false] at hq
    refine pq_s hB 1 (pc' := 13) (L' := [(0, .ref 60), (1, .int a0), (2, .int a1)]) (st' := [.int 0]) (I' := I1) (J' := J1) (by with_unfolding_all rfl) ?_
    subst hq
    exact pq_2i (x := 0) rfl ⟨_, rfl, rfl⟩
-- LP$RunReader.readGive
def f58_60_10 (N : Nat) (I : tI) (J : tJ) : Option (Int32 × tI × tJ) :=
  (match f39_8_31 N I J (I 10 6) with | none => none | some (v1, I1, J1) => bif xcmp .ne v1 0 then (match f25_8 N I1 J1 with | none => none | some (_, I3, J3) => (match f39_8_31 N I3 J3 (I3 10 6) with | none => none | some (v4, I4, J4) => bif xcmp .ne v4 0 then (match f73_61 I4 J4 2 (I1 8 8) (I4 8 8) with | (_, I6, J6) => (match f25_8 N I6 J6 with | none => none | some (_, I7, J7) => some (1, I7, J7))) else some (0, I4, J4))) else some (0, I1, J1))
set_option maxRecDepth 100000 in
theorem f58_60_10_pq {sc : List Int32} {B : xM} {N : Nat} {I : tI} {J : tJ} (hB : kB pT B) : ∀ {X : Option (Int32 × tI × tJ)}, f58_60_10 N I J = X → pq sc B N (xt_58, 3, 3) 0 [(0, .ref 60), (1, .ref 10)] [] I J (fun v I1 J1 => ∃ a, v = some (.int a) ∧ X = some (a, I1, J1)) := by
  intro X hq
  unfold f58_60_10 at hq
  have hle : N ≤ N := Nat.le_refl N
  refine pq_s hB 6 (pc' := 12) (L' := [(0, .ref 60), (1, .ref 10)]) (st' := [.int (I 10 6), .ref 31, .ref 8]) (I' := I) (J' := J) (by with_unfolding_all rfl) ?_
  refine pq_1 rfl rfl rfl rfl (pq_le hle (f39_8_31_pq hB rfl)) ?_
  rintro _ I1 J1 ⟨v1, rfl, hc1⟩
  rw [hc1] at hq
  dsimp only at hq
  refine pq_ifn hB rfl (fun h2 => ?_) (fun h2 => ?_)
  · rw [h2, cond_true] at hq
    refine pq_s hB 6 (pc' := 32) (L' := [(2, .int (I1 8 8)), (0, .ref 60), (1, .ref 10)]) (st' := [.ref 8]) (I' := I1) (J' := J1) (by with_unfolding_all rfl) ?_
    refine pq_1 rfl rfl rfl rfl (pq_le hle (f25_8_pq hB rfl)) ?_
    rintro _ I3 J3 ⟨rfl, hc3⟩
    rw [hc3] at hq
    dsimp only at hq
    refine pq_s hB 6 (pc' := 47) (L' := [(2, .int (I1 8 8)), (0, .ref 60), (1, .ref 10)]) (st' := [.int (I3 10 6), .ref 31, .ref 8]) (I' := I3) (J' := J3) (by with_unfolding_all rfl) ?_
    refine pq_1 rfl rfl rfl rfl (pq_le hle (f39_8_31_pq hB rfl)) ?_
    rintro _ I4 J4 ⟨v4, rfl, hc4⟩
    rw [hc4] at hq
    dsimp only at hq
    refine pq_ifn hB rfl (fun h5 => ?_) (fun h5 => ?_)
    · rw [h5, cond_true] at hq
      refine pq_s hB 7 (pc' := 68) (L' := [(2, .int (I1 8 8)), (0, .ref 60), (1, .ref 10)]) (st' := [.int (I4 8 8), .int (I1 8 8), .int 2, .ref 61]) (I' := I4) (J' := J4) (by with_unfolding_all rfl) ?_
      generalize hc6 : f73_61 I4 J4 2 (I1 8 8) (I4 8 8) = q6 at hq
      obtain ⟨v6, _, _⟩ := q6
      dsimp only at hq
      refine pq_1 rfl rfl rfl rfl (f73_61_pq hB hc6) ?_
      rintro _ I6 J6 ⟨rfl, rfl, rfl⟩
      refine pq_s hB 2 (pc' := 75) (L' := [(2, .int (I1 8 8)), (0, .ref 60), (1, .ref 10)]) (st' := [.ref 8]) (I' := I6) (J' := J6) (by with_unfolding_all rfl) ?_
      refine pq_1 rfl rfl rfl rfl (pq_le hle (f25_8_pq hB rfl)) ?_
      rintro _ I7 J7 ⟨rfl, hc7⟩
      rw [hc7] at hq
      dsimp only at hq
      refine pq_s hB 1 (pc' := 79) (L' := [(2, .int (I1 8 8)), (0, .ref 60), (1, .ref 10)]) (st' := [.int 1]) (I' := I7) (J' := J7) (by with_unfolding_all rfl) ?_
      subst hq
      exact pq_2i (x := 1) rfl ⟨_, rfl, rfl⟩
    · rw [h5, cond_false] at hq
      refine pq_s hB 1 (pc' := 54) (L' := [(2, .int (I1 8 8)), (0, .ref 60), (1, .ref 10)]) (st' := [.int 0]) (I' := I4) (J' := J4) (by with_unfolding_all rfl) ?_
      subst hq
      exact pq_2i (x := 0) rfl ⟨_, rfl, rfl⟩
  · rw [h2, cond_false] at hq
    refine pq_s hB 1 (pc' := 19) (L' := [(0, .ref 60), (1, .ref 10)]) (st' := [.int 0]) (I' := I1) (J' := J1) (by with_unfolding_all rfl) ?_
    subst hq
    exact pq_2i (x := 0) rfl ⟨_, rfl, rfl⟩
-- LP$RunReader.openEntry
def f55_60 (I : tI) (J : tJ) : Unit × tI × tJ :=
  bif xcmp .ge (I 60 3) 3 then ((), I, J) else ((), (tup (tup I 66 (((I 60 3)).toNatClampNeg) (I 61 2)) 60 3 ((I 60 3) + 1)), J)
set_option maxRecDepth 100000 in
theorem f55_60_pq {sc : List Int32} {B : xM} {n : Nat} {I : tI} {J : tJ} (hB : kB pT B) : ∀ {q : Unit × tI × tJ}, f55_60 I J = q → pq sc B n (xt_55, 1, 0) 0 [(0, .ref 60)] [] I J (fun v I1 J1 => v = none ∧ I1 = q.2.1 ∧ J1 = q.2.2) := by
  intro q hq
  unfold f55_60 at hq
  refine pq_s hB 3 (pc' := 5) (L' := [(0, .ref 60)]) (st' := [.int 3, .int (I 60 3)]) (I' := I) (J' := J) (by with_unfolding_all rfl) ?_
  refine pq_icn hB rfl (fun h1 => ?_) (fun h1 => ?_)
  · rw [h1, cond_true] at hq
    subst hq
    exact pq_2 (v := none) rfl rfl (by with_unfolding_all rfl) ⟨rfl, rfl, rfl⟩
  · rw [h1, cond_false] at hq
    refine pq_s hB 14 (pc' := 34) (L' := [(0, .ref 60)]) (st' := []) (I' := (tup (tup I 66 (((I 60 3)).toNatClampNeg) (I 61 2)) 60 3 ((I 60 3) + 1))) (J' := J) (by with_unfolding_all rfl) ?_
    subst hq
    exact pq_2 (v := none) rfl rfl (by with_unfolding_all rfl) ⟨rfl, rfl, rfl⟩
-- LP$Reader.indexOf, the loop at 3, to [34, 25]
def f40_13_l3 (N : Nat) : Nat → tI → tJ → Int32 → Int64 → Int32 → Option (Nat × Int32 × Int64 × Int32 × tI × tJ)
  | 0, _, _, _, _, _ => none
  | k + 1, I, J, x1, x2, x4 =>
    bif xcmp .ge x4 x1 then some (0, x1, x2, x4, I, J) else bif xcmp .ge x4 5 then some (0, x1, x2, x4, I, J) else bif xcmp .ne (lg_cmp (J 13 (x4).toNatClampNeg) x2) 0 then f40_13_l3 N k I J x1 x2 (x4 + 1) else some (1, x1, x2, x4, I, J)
set_option maxRecDepth 100000 in
theorem f40_13_l3_pq {sc : List Int32} {B : xM} {N : Nat} {P : Option Value → tI → tJ → Prop} (hB : kB pT B) : ∀ (k : Nat), k ≤ N → ∀ (b m : Nat), b ≤ k → b ≤ m → ∀ {I : tI} {J : tJ} {x1 : Int32} {x2 : Int64} {x4 : Int32} {Y : Option (Nat × Int32 × Int64 × Int32 × tI × tJ)}, f40_13_l3 N k I J x1 x2 x4 = Y → (∀ {y1 : Int32} {y2 : Int64} {y4 : Int32} {I1 : tI} {J1 : tJ}, Y = some (0, y1, y2, y4, I1, J1) → pq sc B m (xt_40, 5, 1) 34 [(0, .ref 13), (1, .int y1), (2, .long y2), (4, .int y4)] [] I1 J1 P) → (∀ {y1 : Int32} {y2 : Int64} {y4 : Int32} {I1 : tI} {J1 : tJ}, Y = some (1, y1, y2, y4, I1, J1) → pq sc B m (xt_40, 5, 1) 25 [(0, .ref 13), (1, .int y1), (2, .long y2), (4, .int y4)] [] I1 J1 P) → pq sc B b (xt_40, 5, 1) 3 [(0, .ref 13), (1, .int x1), (2, .long x2), (4, .int x4)] [] I J P
  | 0, _, b, _, hb, _, _, _, _, _, _, _, _, _, _ => by
    have e : b = 0 := by omega
    subst e
    exact pq_zero
  | _ + 1, _, 0, _, _, _, _, _, _, _, _, _, _, _, _ => pq_zero
  | k + 1, hk, b + 1, m, hb, hm, I, J, x1, x2, x4, Y, hq, hx0, hx1 => by
    unfold f40_13_l3 at hq
    have hle : b ≤ N := by omega
    refine pq_s1 hB 1 (pc' := 6) (L' := [(0, .ref 13), (1, .int x1), (2, .long x2), (4, .int x4)]) (st' := [.int x1, .int x4]) (I' := I) (J' := J) (by with_unfolding_all rfl) ?_
    refine pq_icn hB rfl (fun h1 => ?_) (fun h1 => ?_)
    · rw [h1, cond_true] at hq
      exact pq_le (by omega) (hx0 hq.symm)
    · rw [h1, cond_false] at hq
      refine pq_s hB 3 (pc' := 13) (L' := [(0, .ref 13), (1, .int x1), (2, .long x2), (4, .int x4)]) (st' := [.int 5, .int x4]) (I' := I) (J' := J) (by with_unfolding_all rfl) ?_
      refine pq_icn hB rfl (fun h2 => ?_) (fun h2 => ?_)
      · rw [h2, cond_true] at hq
        exact pq_le (by omega) (hx0 hq.symm)
      · rw [h2, cond_false] at hq
        refine pq_s hB 5 (pc' := 22) (L' := [(0, .ref 13), (1, .int x1), (2, .long x2), (4, .int x4)]) (st' := [.int (lg_cmp (J 13 (x4).toNatClampNeg) x2)]) (I' := I) (J' := J) (by with_unfolding_all rfl) ?_
        refine pq_ifn hB rfl (fun h3 => ?_) (fun h3 => ?_)
        · rw [h3, cond_true] at hq
          refine pq_s hB 2 (pc' := 3) (L' := [(4, .int (x4 + 1)), (0, .ref 13), (1, .int x1), (2, .long x2)]) (st' := []) (I' := I) (J' := J) (by with_unfolding_all rfl) ?_
          refine pq_perm (L := [(0, .ref 13), (1, .int x1), (2, .long x2), (4, .int (x4 + 1))]) (leqn_of ⟨rfl, rfl, rfl, rfl, trivial⟩ ⟨rfl, rfl, rfl, rfl, trivial⟩ ⟨rfl, rfl, rfl, rfl, trivial⟩) ?_
          exact f40_13_l3_pq hB k (by omega) b m (by omega) (by omega) hq hx0 hx1
        · rw [h3, cond_false] at hq
          exact pq_le (by omega) (hx1 hq.symm)
-- LP$Reader.indexOf
def f40_13 (N : Nat) (I : tI) (J : tJ) (a0 : Int32) (a1 : Int64) : Option (Int32 × tI × tJ) :=
  (match f40_13_l3 N N I J a0 a1 0 with | none => none | some (k1, y1_1, y1_2, y1_4, I1, J1) => bif Nat.beq k1 0 then (some ((-1), I1, J1)) else some (y1_4, I1, J1))
set_option maxRecDepth 100000 in
theorem f40_13_pq {sc : List Int32} {B : xM} {N : Nat} {I : tI} {J : tJ} {a0 : Int32} {a1 : Int64} (hB : kB pT B) : ∀ {X : Option (Int32 × tI × tJ)}, f40_13 N I J a0 a1 = X → pq sc B N (xt_40, 5, 1) 0 [(0, .ref 13), (1, .int a0), (2, .long a1)] [] I J (fun v I1 J1 => ∃ a, v = some (.int a) ∧ X = some (a, I1, J1)) := by
  intro X hq
  unfold f40_13 at hq
  have hle : N ≤ N := Nat.le_refl N
  refine pq_s hB 2 (pc' := 3) (L' := [(4, .int 0), (0, .ref 13), (1, .int a0), (2, .long a1)]) (st' := []) (I' := I) (J' := J) (by with_unfolding_all rfl) ?_
  refine pq_perm (L := [(0, .ref 13), (1, .int a0), (2, .long a1), (4, .int 0)]) (leqn_of ⟨rfl, rfl, rfl, rfl, trivial⟩ ⟨rfl, rfl, rfl, rfl, trivial⟩ ⟨rfl, rfl, rfl, rfl, trivial⟩) ?_
  refine f40_13_l3_pq hB N (Nat.le_refl N) N N hle (Nat.le_refl N) rfl ?_ ?_
  ·
    intro y1_1 y1_2 y1_4 I1 J1 hc1
    rw [hc1] at hq
    dsimp only at hq
    rw [show Nat.beq 0 0 = true from rfl, cond_true] at hq
    refine pq_s hB 1 (pc' := 35) (L' := [(0, .ref 13), (1, .int y1_1), (2, .long y1_2), (4, .int y1_4)]) (st' := [.int (-1)]) (I' := I1) (J' := J1) (by with_unfolding_all rfl) ?_
    subst hq
    exact pq_2i (x := (-1)) rfl ⟨_, rfl, rfl⟩
  ·
    intro y1_1 y1_2 y1_4 I1 J1 hc1
    rw [hc1] at hq
    dsimp only at hq
    rw [show Nat.beq 1 0 = false from rfl, cond_false] at hq
    refine pq_s hB 1 (pc' := 27) (L' := [(0, .ref 13), (1, .int y1_1), (2, .long y1_2), (4, .int y1_4)]) (st' := [.int y1_4]) (I' := I1) (J' := J1) (by with_unfolding_all rfl) ?_
    subst hq
    exact pq_2i (x := y1_4) rfl ⟨_, rfl, rfl⟩
-- LP$Reader.isNameOf
def f39_8_13 (N : Nat) (I : tI) (J : tJ) (a0 : Int32) : Option (Int32 × tI × tJ) :=
  (match f38_8 I J with | (v1, I1, J1) => bif xcmp .ne v1 0 then (match f40_13 N I1 J1 a0 (J1 8 6) with | none => none | some (v3, I3, J3) => bif xcmp .ne v3 (-1) then some (1, (tup I3 8 8 v3), J3) else (match f33_8 (tup I3 8 8 v3) J3 3 with | (v5, I5, J5) => bif xcmp .eq v5 0 then some (0, I5, J5) else some (1, I5, J5))) else some (0, I1, J1))
set_option maxRecDepth 100000 in
theorem f39_8_13_pq {sc : List Int32} {B : xM} {N : Nat} {I : tI} {J : tJ} {a0 : Int32} (hB : kB pT B) : ∀ {X : Option (Int32 × tI × tJ)}, f39_8_13 N I J a0 = X → pq sc B N (xt_39, 3, 3) 0 [(0, .ref 8), (1, .ref 13), (2, .int a0)] [] I J (fun v I1 J1 => ∃ a, v = some (.int a) ∧ X = some (a, I1, J1)) := by
  intro X hq
  unfold f39_8_13 at hq
  have hle : N ≤ N := Nat.le_refl N
  refine pq_s hB 1 (pc' := 1) (L' := [(0, .ref 8), (1, .ref 13), (2, .int a0)]) (st' := [.ref 8]) (I' := I) (J' := J) (by with_unfolding_all rfl) ?_
  generalize hc1 : f38_8 I J = q1 at hq
  obtain ⟨v1, _, _⟩ := q1
  dsimp only at hq
  refine pq_1 rfl rfl rfl rfl (f38_8_pq hB hc1) ?_
  rintro _ I1 J1 ⟨rfl, rfl, rfl⟩
  refine pq_ifn hB rfl (fun h2 => ?_) (fun h2 => ?_)
  · rw [h2, cond_true] at hq
    refine pq_s hB 5 (pc' := 16) (L' := [(0, .ref 8), (1, .ref 13), (2, .int a0)]) (st' := [.long (J1 8 6), .int a0, .ref 13, .ref 8]) (I' := I1) (J' := J1) (by with_unfolding_all rfl) ?_
    refine pq_1 rfl rfl rfl rfl (pq_le hle (f40_13_pq hB rfl)) ?_
    rintro _ I3 J3 ⟨v3, rfl, hc3⟩
    rw [hc3] at hq
    dsimp only at hq
    refine pq_s hB 4 (pc' := 27) (L' := [(0, .ref 8), (1, .ref 13), (2, .int a0)]) (st' := [.int (-1), .int v3]) (I' := (tup I3 8 8 v3)) (J' := J3) (by with_unfolding_all rfl) ?_
    refine pq_icn hB rfl (fun h4 => ?_) (fun h4 => ?_)
    · rw [h4, cond_true] at hq
      refine pq_s hB 2 (pc' := 43) (L' := [(0, .ref 8), (1, .ref 13), (2, .int a0)]) (st' := [.int 1]) (I' := (tup I3 8 8 v3)) (J' := J3) (by with_unfolding_all rfl) ?_
      subst hq
      exact pq_2i (x := 1) rfl ⟨_, rfl, rfl⟩
    · rw [h4, cond_false] at hq
      refine pq_s hB 2 (pc' := 32) (L' := [(0, .ref 8), (1, .ref 13), (2, .int a0)]) (st' := [.int 3, .ref 8]) (I' := (tup I3 8 8 v3)) (J' := J3) (by with_unfolding_all rfl) ?_
      generalize hc5 : f33_8 (tup I3 8 8 v3) J3 3 = q5 at hq
      obtain ⟨v5, _, _⟩ := q5
      dsimp only at hq
      refine pq_1 rfl rfl rfl rfl (f33_8_pq hB hc5) ?_
      rintro _ I5 J5 ⟨rfl, rfl, rfl⟩
      refine pq_ifn hB rfl (fun h6 => ?_) (fun h6 => ?_)
      · rw [h6, cond_true] at hq
        refine pq_s hB 1 (pc' := 43) (L' := [(0, .ref 8), (1, .ref 13), (2, .int a0)]) (st' := [.int 0]) (I' := I5) (J' := J5) (by with_unfolding_all rfl) ?_
        subst hq
        exact pq_2i (x := 0) rfl ⟨_, rfl, rfl⟩
      · rw [h6, cond_false] at hq
        refine pq_s hB 2 (pc' := 43) (L' := [(0, .ref 8), (1, .ref 13), (2, .int a0)]) (st' := [.int 1]) (I' := I5) (J' := J5) (by with_unfolding_all rfl) ?_
        subst hq
        exact pq_2i (x := 1) rfl ⟨_, rfl, rfl⟩
  · rw [h2, cond_false] at hq
    refine pq_s hB 1 (pc' := 8) (L' := [(0, .ref 8), (1, .ref 13), (2, .int a0)]) (st' := [.int 0]) (I' := I1) (J' := J1) (by with_unfolding_all rfl) ?_
    subst hq
    exact pq_2i (x := 0) rfl ⟨_, rfl, rfl⟩
-- LP$RunReader.readTest, from 107 on
def f59_60_10_j107 (N : Nat) (I : tI) (J : tJ) (x3 : Int32) (s0 : Int32) : Option (Int32 × tI × tJ) :=
  bif xcmp .ne s0 0 then (bif xcmp .eq x3 0 then (match f73_61 I J 7 (I 8 8) 0 with | (_, I9, J9) => (match f25_8 N I9 J9 with | none => none | some (_, I10, J10) => some (1, I10, J10))) else (match f73_61 I J 6 (I 8 8) 0 with | (_, I11, J11) => (match f25_8 N I11 J11 with | none => none | some (_, I12, J12) => some (1, I12, J12)))) else some (0, I, J)
set_option maxRecDepth 100000 in
theorem f59_60_10_j107_pq {sc : List Int32} {B : xM} {N : Nat} {I : tI} {J : tJ} {x3 : Int32} {s0 : Int32} (hB : kB pT B) : ∀ {X : Option (Int32 × tI × tJ)}, f59_60_10_j107 N I J x3 s0 = X → pq sc B N (xt_59, 5, 3) 107 [(0, .ref 60), (3, .int x3)] [.int s0] I J (fun v I1 J1 => ∃ a, v = some (.int a) ∧ X = some (a, I1, J1)) := by
  intro X hq
  unfold f59_60_10_j107 at hq
  have hle : N ≤ N := Nat.le_refl N
  refine pq_s hB 2 (pc' := 111) (L' := [(4, .int s0), (0, .ref 60), (3, .int x3)]) (st' := [.int s0]) (I' := I) (J' := J) (by with_unfolding_all rfl) ?_
  refine pq_ifn hB rfl (fun h7 => ?_) (fun h7 => ?_)
  · rw [h7, cond_true] at hq
    refine pq_s hB 3 (pc' := 121) (L' := [(4, .int s0), (0, .ref 60), (3, .int x3)]) (st' := [.int x3, .ref 61]) (I' := I) (J' := J) (by with_unfolding_all rfl) ?_
    refine pq_ifn hB rfl (fun h8 => ?_) (fun h8 => ?_)
    · rw [h8, cond_true] at hq
      refine pq_s hB 5 (pc' := 139) (L' := [(4, .int s0), (0, .ref 60), (3, .int x3)]) (st' := [.int 0, .int (I 8 8), .int 7, .ref 61]) (I' := I) (J' := J) (by with_unfolding_all rfl) ?_
      generalize hc9 : f73_61 I J 7 (I 8 8) 0 = q9 at hq
      obtain ⟨v9, _, _⟩ := q9
      dsimp only at hq
      refine pq_1 rfl rfl rfl rfl (f73_61_pq hB hc9) ?_
      rintro _ I9 J9 ⟨rfl, rfl, rfl⟩
      refine pq_s hB 2 (pc' := 146) (L' := [(4, .int s0), (0, .ref 60), (3, .int x3)]) (st' := [.ref 8]) (I' := I9) (J' := J9) (by with_unfolding_all rfl) ?_
      refine pq_1 rfl rfl rfl rfl (pq_le hle (f25_8_pq hB rfl)) ?_
      rintro _ I10 J10 ⟨rfl, hc10⟩
      rw [hc10] at hq
      dsimp only at hq
      refine pq_s hB 1 (pc' := 150) (L' := [(4, .int s0), (0, .ref 60), (3, .int x3)]) (st' := [.int 1]) (I' := I10) (J' := J10) (by with_unfolding_all rfl) ?_
      subst hq
      exact pq_2i (x := 1) rfl ⟨_, rfl, rfl⟩
    · rw [h8, cond_false] at hq
      refine pq_s hB 6 (pc' := 139) (L' := [(4, .int s0), (0, .ref 60), (3, .int x3)]) (st' := [.int 0, .int (I 8 8), .int 6, .ref 61]) (I' := I) (J' := J) (by with_unfolding_all rfl) ?_
      generalize hc11 : f73_61 I J 6 (I 8 8) 0 = q11 at hq
      obtain ⟨v11, _, _⟩ := q11
      dsimp only at hq
      refine pq_1 rfl rfl rfl rfl (f73_61_pq hB hc11) ?_
      rintro _ I11 J11 ⟨rfl, rfl, rfl⟩
      refine pq_s hB 2 (pc' := 146) (L' := [(4, .int s0), (0, .ref 60), (3, .int x3)]) (st' := [.ref 8]) (I' := I11) (J' := J11) (by with_unfolding_all rfl) ?_
      refine pq_1 rfl rfl rfl rfl (pq_le hle (f25_8_pq hB rfl)) ?_
      rintro _ I12 J12 ⟨rfl, hc12⟩
      rw [hc12] at hq
      dsimp only at hq
      refine pq_s hB 1 (pc' := 150) (L' := [(4, .int s0), (0, .ref 60), (3, .int x3)]) (st' := [.int 1]) (I' := I12) (J' := J12) (by with_unfolding_all rfl) ?_
      subst hq
      exact pq_2i (x := 1) rfl ⟨_, rfl, rfl⟩
  · rw [h7, cond_false] at hq
    refine pq_s hB 1 (pc' := 115) (L' := [(4, .int s0), (0, .ref 60), (3, .int x3)]) (st' := [.int 0]) (I' := I) (J' := J) (by with_unfolding_all rfl) ?_
    subst hq
    exact pq_2i (x := 0) rfl ⟨_, rfl, rfl⟩
-- LP$Reader.indexOf, the loop at 3, to [34, 25]
def f40_22_l3 (N : Nat) : Nat → tI → tJ → Int32 → Int64 → Int32 → Option (Nat × Int32 × Int64 × Int32 × tI × tJ)
  | 0, _, _, _, _, _ => none
  | k + 1, I, J, x1, x2, x4 =>
    bif xcmp .ge x4 x1 then some (0, x1, x2, x4, I, J) else bif xcmp .ge x4 6 then some (0, x1, x2, x4, I, J) else bif xcmp .ne (lg_cmp (J 22 (x4).toNatClampNeg) x2) 0 then f40_22_l3 N k I J x1 x2 (x4 + 1) else some (1, x1, x2, x4, I, J)
set_option maxRecDepth 100000 in
theorem f40_22_l3_pq {sc : List Int32} {B : xM} {N : Nat} {P : Option Value → tI → tJ → Prop} (hB : kB pT B) : ∀ (k : Nat), k ≤ N → ∀ (b m : Nat), b ≤ k → b ≤ m → ∀ {I : tI} {J : tJ} {x1 : Int32} {x2 : Int64} {x4 : Int32} {Y : Option (Nat × Int32 × Int64 × Int32 × tI × tJ)}, f40_22_l3 N k I J x1 x2 x4 = Y → (∀ {y1 : Int32} {y2 : Int64} {y4 : Int32} {I1 : tI} {J1 : tJ}, Y = some (0, y1, y2, y4, I1, J1) → pq sc B m (xt_40, 5, 1) 34 [(0, .ref 22), (1, .int y1), (2, .long y2), (4, .int y4)] [] I1 J1 P) → (∀ {y1 : Int32} {y2 : Int64} {y4 : Int32} {I1 : tI} {J1 : tJ}, Y = some (1, y1, y2, y4, I1, J1) → pq sc B m (xt_40, 5, 1) 25 [(0, .ref 22), (1, .int y1), (2, .long y2), (4, .int y4)] [] I1 J1 P) → pq sc B b (xt_40, 5, 1) 3 [(0, .ref 22), (1, .int x1), (2, .long x2), (4, .int x4)] [] I J P
  | 0, _, b, _, hb, _, _, _, _, _, _, _, _, _, _ => by
    have e : b = 0 := by omega
    subst e
    exact pq_zero
  | _ + 1, _, 0, _, _, _, _, _, _, _, _, _, _, _, _ => pq_zero
  | k + 1, hk, b + 1, m, hb, hm, I, J, x1, x2, x4, Y, hq, hx0, hx1 => by
    unfold f40_22_l3 at hq
    have hle : b ≤ N := by omega
    refine pq_s1 hB 1 (pc' := 6) (L' := [(0, .ref 22), (1, .int x1), (2, .long x2), (4, .int x4)]) (st' := [.int x1, .int x4]) (I' := I) (J' := J) (by with_unfolding_all rfl) ?_
    refine pq_icn hB rfl (fun h1 => ?_) (fun h1 => ?_)
    · rw [h1, cond_true] at hq
      exact pq_le (by omega) (hx0 hq.symm)
    · rw [h1, cond_false] at hq
      refine pq_s hB 3 (pc' := 13) (L' := [(0, .ref 22), (1, .int x1), (2, .long x2), (4, .int x4)]) (st' := [.int 6, .int x4]) (I' := I) (J' := J) (by with_unfolding_all rfl) ?_
      refine pq_icn hB rfl (fun h2 => ?_) (fun h2 => ?_)
      · rw [h2, cond_true] at hq
        exact pq_le (by omega) (hx0 hq.symm)
      · rw [h2, cond_false] at hq
        refine pq_s hB 5 (pc' := 22) (L' := [(0, .ref 22), (1, .int x1), (2, .long x2), (4, .int x4)]) (st' := [.int (lg_cmp (J 22 (x4).toNatClampNeg) x2)]) (I' := I) (J' := J) (by with_unfolding_all rfl) ?_
        refine pq_ifn hB rfl (fun h3 => ?_) (fun h3 => ?_)
        · rw [h3, cond_true] at hq
          refine pq_s hB 2 (pc' := 3) (L' := [(4, .int (x4 + 1)), (0, .ref 22), (1, .int x1), (2, .long x2)]) (st' := []) (I' := I) (J' := J) (by with_unfolding_all rfl) ?_
          refine pq_perm (L := [(0, .ref 22), (1, .int x1), (2, .long x2), (4, .int (x4 + 1))]) (leqn_of ⟨rfl, rfl, rfl, rfl, trivial⟩ ⟨rfl, rfl, rfl, rfl, trivial⟩ ⟨rfl, rfl, rfl, rfl, trivial⟩) ?_
          exact f40_22_l3_pq hB k (by omega) b m (by omega) (by omega) hq hx0 hx1
        · rw [h3, cond_false] at hq
          exact pq_le (by omega) (hx1 hq.symm)
-- LP$Reader.indexOf
def f40_22 (N : Nat) (I : tI) (J : tJ) (a0 : Int32) (a1 : Int64) : Option (Int32 × tI × tJ) :=
  (match f40_22_l3 N N I J a0 a1 0 with | none => none | some (k1, y1_1, y1_2, y1_4, I1, J1) => bif Nat.beq k1 0 then (some ((-1), I1, J1)) else some (y1_4, I1, J1))
set_option maxRecDepth 100000 in
theorem f40_22_pq {sc : List Int32} {B : xM} {N : Nat} {I : tI} {J : tJ} {a0 : Int32} {a1 : Int64} (hB : kB pT B) : ∀ {X : Option (Int32 × tI × tJ)}, f40_22 N I J a0 a1 = X → pq sc B N (xt_40, 5, 1) 0 [(0, .ref 22), (1, .int a0), (2, .long a1)] [] I J (fun v I1 J1 => ∃ a, v = some (.int a) ∧ X = some (a, I1, J1)) := by
  intro X hq
  unfold f40_22 at hq
  have hle : N ≤ N := Nat.le_refl N
  refine pq_s hB 2 (pc' := 3) (L' := [(4, .int 0), (0, .ref 22), (1, .int a0), (2, .long a1)]) (st' := []) (I' := I) (J' := J) (by with_unfolding_all rfl) ?_
  refine pq_perm (L := [(0, .ref 22), (1, .int a0), (2, .long a1), (4, .int 0)]) (leqn_of ⟨rfl, rfl, rfl, rfl, trivial⟩ ⟨rfl, rfl, rfl, rfl, trivial⟩ ⟨rfl, rfl, rfl, rfl, trivial⟩) ?_
  refine f40_22_l3_pq hB N (Nat.le_refl N) N N hle (Nat.le_refl N) rfl ?_ ?_
  ·
    intro y1_1 y1_2 y1_4 I1 J1 hc1
    rw [hc1] at hq
    dsimp only at hq
    rw [show Nat.beq 0 0 = true from rfl, cond_true] at hq
    refine pq_s hB 1 (pc' := 35) (L' := [(0, .ref 22), (1, .int y1_1), (2, .long y1_2), (4, .int y1_4)]) (st' := [.int (-1)]) (I' := I1) (J' := J1) (by with_unfolding_all rfl) ?_
    subst hq
    exact pq_2i (x := (-1)) rfl ⟨_, rfl, rfl⟩
  ·
    intro y1_1 y1_2 y1_4 I1 J1 hc1
    rw [hc1] at hq
    dsimp only at hq
    rw [show Nat.beq 1 0 = false from rfl, cond_false] at hq
    refine pq_s hB 1 (pc' := 27) (L' := [(0, .ref 22), (1, .int y1_1), (2, .long y1_2), (4, .int y1_4)]) (st' := [.int y1_4]) (I' := I1) (J' := J1) (by with_unfolding_all rfl) ?_
    subst hq
    exact pq_2i (x := y1_4) rfl ⟨_, rfl, rfl⟩
-- LP$Reader.isNameOf
def f39_8_22 (N : Nat) (I : tI) (J : tJ) (a0 : Int32) : Option (Int32 × tI × tJ) :=
  (match f38_8 I J with | (v1, I1, J1) => bif xcmp .ne v1 0 then (match f40_22 N I1 J1 a0 (J1 8 6) with | none => none | some (v3, I3, J3) => bif xcmp .ne v3 (-1) then some (1, (tup I3 8 8 v3), J3) else (match f33_8 (tup I3 8 8 v3) J3 3 with | (v5, I5, J5) => bif xcmp .eq v5 0 then some (0, I5, J5) else some (1, I5, J5))) else some (0, I1, J1))
set_option maxRecDepth 100000 in
theorem f39_8_22_pq {sc : List Int32} {B : xM} {N : Nat} {I : tI} {J : tJ} {a0 : Int32} (hB : kB pT B) : ∀ {X : Option (Int32 × tI × tJ)}, f39_8_22 N I J a0 = X → pq sc B N (xt_39, 3, 3) 0 [(0, .ref 8), (1, .ref 22), (2, .int a0)] [] I J (fun v I1 J1 => ∃ a, v = some (.int a) ∧ X = some (a, I1, J1)) := by
  intro X hq
  unfold f39_8_22 at hq
  have hle : N ≤ N := Nat.le_refl N
  refine pq_s hB 1 (pc' := 1) (L' := [(0, .ref 8), (1, .ref 22), (2, .int a0)]) (st' := [.ref 8]) (I' := I) (J' := J) (by with_unfolding_all rfl) ?_
  generalize hc1 : f38_8 I J = q1 at hq
  obtain ⟨v1, _, _⟩ := q1
  dsimp only at hq
  refine pq_1 rfl rfl rfl rfl (f38_8_pq hB hc1) ?_
  rintro _ I1 J1 ⟨rfl, rfl, rfl⟩
  refine pq_ifn hB rfl (fun h2 => ?_) (fun h2 => ?_)
  · rw [h2, cond_true] at hq
    refine pq_s hB 5 (pc' := 16) (L' := [(0, .ref 8), (1, .ref 22), (2, .int a0)]) (st' := [.long (J1 8 6), .int a0, .ref 22, .ref 8]) (I' := I1) (J' := J1) (by with_unfolding_all rfl) ?_
    refine pq_1 rfl rfl rfl rfl (pq_le hle (f40_22_pq hB rfl)) ?_
    rintro _ I3 J3 ⟨v3, rfl, hc3⟩
    rw [hc3] at hq
    dsimp only at hq
    refine pq_s hB 4 (pc' := 27) (L' := [(0, .ref 8), (1, .ref 22), (2, .int a0)]) (st' := [.int (-1), .int v3]) (I' := (tup I3 8 8 v3)) (J' := J3) (by with_unfolding_all rfl) ?_
    refine pq_icn hB rfl (fun h4 => ?_) (fun h4 => ?_)
    · rw [h4, cond_true] at hq
      refine pq_s hB 2 (pc' := 43) (L' := [(0, .ref 8), (1, .ref 22), (2, .int a0)]) (st' := [.int 1]) (I' := (tup I3 8 8 v3)) (J' := J3) (by with_unfolding_all rfl) ?_
      subst hq
      exact pq_2i (x := 1) rfl ⟨_, rfl, rfl⟩
    · rw [h4, cond_false] at hq
      refine pq_s hB 2 (pc' := 32) (L' := [(0, .ref 8), (1, .ref 22), (2, .int a0)]) (st' := [.int 3, .ref 8]) (I' := (tup I3 8 8 v3)) (J' := J3) (by with_unfolding_all rfl) ?_
      generalize hc5 : f33_8 (tup I3 8 8 v3) J3 3 = q5 at hq
      obtain ⟨v5, _, _⟩ := q5
      dsimp only at hq
      refine pq_1 rfl rfl rfl rfl (f33_8_pq hB hc5) ?_
      rintro _ I5 J5 ⟨rfl, rfl, rfl⟩
      refine pq_ifn hB rfl (fun h6 => ?_) (fun h6 => ?_)
      · rw [h6, cond_true] at hq
        refine pq_s hB 1 (pc' := 43) (L' := [(0, .ref 8), (1, .ref 22), (2, .int a0)]) (st' := [.int 0]) (I' := I5) (J' := J5) (by with_unfolding_all rfl) ?_
        subst hq
        exact pq_2i (x := 0) rfl ⟨_, rfl, rfl⟩
      · rw [h6, cond_false] at hq
        refine pq_s hB 2 (pc' := 43) (L' := [(0, .ref 8), (1, .ref 22), (2, .int a0)]) (st' := [.int 1]) (I' := I5) (J' := J5) (by with_unfolding_all rfl) ?_
        subst hq
        exact pq_2i (x := 1) rfl ⟨_, rfl, rfl⟩
  · rw [h2, cond_false] at hq
    refine pq_s hB 1 (pc' := 8) (L' := [(0, .ref 8), (1, .ref 22), (2, .int a0)]) (st' := [.int 0]) (I' := I1) (J' := J1) (by with_unfolding_all rfl) ?_
    subst hq
    exact pq_2i (x := 0) rfl ⟨_, rfl, rfl⟩
-- LP$RunReader.readTest, from 51 on
def f59_60_10_j51 (N : Nat) (I : tI) (J : tJ) (x3 : Int32) : Option (Int32 × tI × tJ) :=
  (match f25_8 N I J with | none => none | some (_, I4, J4) => bif xcmp .eq x3 0 then (match f39_8_13 N I4 J4 (I4 12 0) with | none => none | some (v6, I6, J6) => f59_60_10_j107 N I6 J6 x3 v6) else (match f39_8_22 N I4 J4 (I4 21 0) with | none => none | some (v7, I7, J7) => f59_60_10_j107 N I7 J7 x3 v7))
set_option maxRecDepth 100000 in
theorem f59_60_10_j51_pq {sc : List Int32} {B : xM} {N : Nat} {I : tI} {J : tJ} {x3 : Int32} (hB : kB pT B) : ∀ {X : Option (Int32 × tI × tJ)}, f59_60_10_j51 N I J x3 = X → pq sc B N (xt_59, 5, 3) 51 [(0, .ref 60), (1, .ref 10), (3, .int x3)] [] I J (fun v I1 J1 => ∃ a, v = some (.int a) ∧ X = some (a, I1, J1)) := by
  intro X hq
  unfold f59_60_10_j51 at hq
  have hle : N ≤ N := Nat.le_refl N
  refine pq_s hB 2 (pc' := 55) (L' := [(0, .ref 60), (1, .ref 10), (3, .int x3)]) (st' := [.ref 8]) (I' := I) (J' := J) (by with_unfolding_all rfl) ?_
  refine pq_1 rfl rfl rfl rfl (pq_le hle (f25_8_pq hB rfl)) ?_
  rintro _ I4 J4 ⟨rfl, hc4⟩
  rw [hc4] at hq
  dsimp only at hq
  refine pq_s hB 1 (pc' := 59) (L' := [(0, .ref 60), (1, .ref 10), (3, .int x3)]) (st' := [.int x3]) (I' := I4) (J' := J4) (by with_unfolding_all rfl) ?_
  refine pq_ifn hB rfl (fun h5 => ?_) (fun h5 => ?_)
  · rw [h5, cond_true] at hq
    refine pq_s hB 8 (pc' := 104) (L' := [(0, .ref 60), (1, .ref 10), (3, .int x3)]) (st' := [.int (I4 12 0), .ref 13, .ref 8]) (I' := I4) (J' := J4) (by with_unfolding_all rfl) ?_
    refine pq_1 rfl rfl rfl rfl (pq_le hle (f39_8_13_pq hB rfl)) ?_
    rintro _ I6 J6 ⟨v6, rfl, hc6⟩
    rw [hc6] at hq
    dsimp only at hq
    refine pq_perm (L := [(0, .ref 60), (3, .int x3)]) (leqn_of ⟨rfl, rfl, trivial⟩ ⟨rfl, rfl, trivial⟩ ⟨rfl, rfl, rfl, trivial⟩) ?_
    exact f59_60_10_j107_pq hB hq
  · rw [h5, cond_false] at hq
    refine pq_s hB 8 (pc' := 80) (L' := [(0, .ref 60), (1, .ref 10), (3, .int x3)]) (st' := [.int (I4 21 0), .ref 22, .ref 8]) (I' := I4) (J' := J4) (by with_unfolding_all rfl) ?_
    refine pq_1 rfl rfl rfl rfl (pq_le hle (f39_8_22_pq hB rfl)) ?_
    rintro _ I7 J7 ⟨v7, rfl, hc7⟩
    rw [hc7] at hq
    dsimp only at hq
    refine pq_s hB 1 (pc' := 107) (L' := [(0, .ref 60), (1, .ref 10), (3, .int x3)]) (st' := [.int v7]) (I' := I7) (J' := J7) (by with_unfolding_all rfl) ?_
    refine pq_perm (L := [(0, .ref 60), (3, .int x3)]) (leqn_of ⟨rfl, rfl, trivial⟩ ⟨rfl, rfl, trivial⟩ ⟨rfl, rfl, rfl, trivial⟩) ?_
    exact f59_60_10_j107_pq hB hq
-- LP$RunReader.readTest, from 31 on
def f59_60_10_j31 (N : Nat) (I : tI) (J : tJ) (x2 : Int32) (s0 : Int32) : Option (Int32 × tI × tJ) :=
  bif xcmp .ne s0 0 then f59_60_10_j51 N I J s0 else bif xcmp .eq x2 27 then f59_60_10_j51 N I J s0 else (match f33_8 I J 2 with | (v5, I5, J5) => some (v5, I5, J5))
set_option maxRecDepth 100000 in
theorem f59_60_10_j31_pq {sc : List Int32} {B : xM} {N : Nat} {I : tI} {J : tJ} {x2 : Int32} {s0 : Int32} (hB : kB pT B) : ∀ {X : Option (Int32 × tI × tJ)}, f59_60_10_j31 N I J x2 s0 = X → pq sc B N (xt_59, 5, 3) 31 [(0, .ref 60), (1, .ref 10), (2, .int x2)] [.int s0] I J (fun v I1 J1 => ∃ a, v = some (.int a) ∧ X = some (a, I1, J1)) := by
  intro X hq
  unfold f59_60_10_j31 at hq
  have hle : N ≤ N := Nat.le_refl N
  refine pq_s hB 2 (pc' := 33) (L' := [(3, .int s0), (0, .ref 60), (1, .ref 10), (2, .int x2)]) (st' := [.int s0]) (I' := I) (J' := J) (by with_unfolding_all rfl) ?_
  refine pq_ifn hB rfl (fun h3 => ?_) (fun h3 => ?_)
  · rw [h3, cond_true] at hq
    refine pq_perm (L := [(0, .ref 60), (1, .ref 10), (3, .int s0)]) (leqn_of ⟨rfl, rfl, rfl, trivial⟩ ⟨rfl, rfl, rfl, trivial⟩ ⟨rfl, rfl, rfl, rfl, trivial⟩) ?_
    exact f59_60_10_j51_pq hB hq
  · rw [h3, cond_false] at hq
    refine pq_s hB 2 (pc' := 39) (L' := [(3, .int s0), (0, .ref 60), (1, .ref 10), (2, .int x2)]) (st' := [.int 27, .int x2]) (I' := I) (J' := J) (by with_unfolding_all rfl) ?_
    refine pq_icn hB rfl (fun h4 => ?_) (fun h4 => ?_)
    · rw [h4, cond_true] at hq
      refine pq_perm (L := [(0, .ref 60), (1, .ref 10), (3, .int s0)]) (leqn_of ⟨rfl, rfl, rfl, trivial⟩ ⟨rfl, rfl, rfl, trivial⟩ ⟨rfl, rfl, rfl, rfl, trivial⟩) ?_
      exact f59_60_10_j51_pq hB hq
    · rw [h4, cond_false] at hq
      refine pq_s hB 3 (pc' := 47) (L' := [(3, .int s0), (0, .ref 60), (1, .ref 10), (2, .int x2)]) (st' := [.int 2, .ref 8]) (I' := I) (J' := J) (by with_unfolding_all rfl) ?_
      generalize hc5 : f33_8 I J 2 = q5 at hq
      obtain ⟨v5, _, _⟩ := q5
      dsimp only at hq
      refine pq_1 rfl rfl rfl rfl (f33_8_pq hB hc5) ?_
      rintro _ I5 J5 ⟨rfl, rfl, rfl⟩
      subst hq
      exact pq_2i (x := v5) rfl ⟨_, rfl, rfl⟩
-- LP$Reader.isCompare
def f36_8 (I : tI) (J : tJ) : Int32 × tI × tJ :=
  bif xcmp .ne (I 8 2) 3 then (match f33_8 I J 2 with | (v2, I2, J2) => bif xcmp .eq v2 0 then (0, I2, J2) else (1, I2, J2)) else bif xcmp .ne (I 8 7) 59 then (1, I, J) else (match f33_8 I J 2 with | (v5, I5, J5) => bif xcmp .eq v5 0 then (0, I5, J5) else (1, I5, J5))
set_option maxRecDepth 100000 in
theorem f36_8_pq {sc : List Int32} {B : xM} {n : Nat} {I : tI} {J : tJ} (hB : kB pT B) : ∀ {q : Int32 × tI × tJ}, f36_8 I J = q → pq sc B n (xt_36, 1, 3) 0 [(0, .ref 8)] [] I J (fun v I1 J1 => v = some (.int q.1) ∧ I1 = q.2.1 ∧ J1 = q.2.2) := by
  intro q hq
  unfold f36_8 at hq
  refine pq_s hB 3 (pc' := 5) (L' := [(0, .ref 8)]) (st' := [.int 3, .int (I 8 2)]) (I' := I) (J' := J) (by with_unfolding_all rfl) ?_
  refine pq_icn hB rfl (fun h1 => ?_) (fun h1 => ?_)
  · rw [h1, cond_true] at hq
    refine pq_s hB 2 (pc' := 19) (L' := [(0, .ref 8)]) (st' := [.int 2, .ref 8]) (I' := I) (J' := J) (by with_unfolding_all rfl) ?_
    generalize hc2 : f33_8 I J 2 = q2 at hq
    obtain ⟨v2, _, _⟩ := q2
    dsimp only at hq
    refine pq_1 rfl rfl rfl rfl (f33_8_pq hB hc2) ?_
    rintro _ I2 J2 ⟨rfl, rfl, rfl⟩
    refine pq_ifn hB rfl (fun h3 => ?_) (fun h3 => ?_)
    · rw [h3, cond_true] at hq
      refine pq_s hB 1 (pc' := 30) (L' := [(0, .ref 8)]) (st' := [.int 0]) (I' := I2) (J' := J2) (by with_unfolding_all rfl) ?_
      subst hq
      exact pq_2i (x := 0) rfl ⟨rfl, rfl, rfl⟩
    · rw [h3, cond_false] at hq
      refine pq_s hB 2 (pc' := 30) (L' := [(0, .ref 8)]) (st' := [.int 1]) (I' := I2) (J' := J2) (by with_unfolding_all rfl) ?_
      subst hq
      exact pq_2i (x := 1) rfl ⟨rfl, rfl, rfl⟩
  · rw [h1, cond_false] at hq
    refine pq_s hB 3 (pc' := 14) (L' := [(0, .ref 8)]) (st' := [.int 59, .int (I 8 7)]) (I' := I) (J' := J) (by with_unfolding_all rfl) ?_
    refine pq_icn hB rfl (fun h4 => ?_) (fun h4 => ?_)
    · rw [h4, cond_true] at hq
      refine pq_s hB 2 (pc' := 30) (L' := [(0, .ref 8)]) (st' := [.int 1]) (I' := I) (J' := J) (by with_unfolding_all rfl) ?_
      subst hq
      exact pq_2i (x := 1) rfl ⟨rfl, rfl, rfl⟩
    · rw [h4, cond_false] at hq
      refine pq_s hB 2 (pc' := 19) (L' := [(0, .ref 8)]) (st' := [.int 2, .ref 8]) (I' := I) (J' := J) (by with_unfolding_all rfl) ?_
      generalize hc5 : f33_8 I J 2 = q5 at hq
      obtain ⟨v5, _, _⟩ := q5
      dsimp only at hq
      refine pq_1 rfl rfl rfl rfl (f33_8_pq hB hc5) ?_
      rintro _ I5 J5 ⟨rfl, rfl, rfl⟩
      refine pq_ifn hB rfl (fun h6 => ?_) (fun h6 => ?_)
      · rw [h6, cond_true] at hq
        refine pq_s hB 1 (pc' := 30) (L' := [(0, .ref 8)]) (st' := [.int 0]) (I' := I5) (J' := J5) (by with_unfolding_all rfl) ?_
        subst hq
        exact pq_2i (x := 0) rfl ⟨rfl, rfl, rfl⟩
      · rw [h6, cond_false] at hq
        refine pq_s hB 2 (pc' := 30) (L' := [(0, .ref 8)]) (st' := [.int 1]) (I' := I5) (J' := J5) (by with_unfolding_all rfl) ?_
        subst hq
        exact pq_2i (x := 1) rfl ⟨rfl, rfl, rfl⟩
-- LP$RunReader.readCoinTest, from 90 on
def f60_60_10_j90 (N : Nat) (I : tI) (J : tJ) (x2 : Int32) (s0 : Int32) : Option (Int32 × tI × tJ) :=
  (match f25_8 N I J with | none => none | some (_, I9, J9) => (match f37_8 I9 J9 0 9999 with | (v10, I10, J10) => bif xcmp .ne v10 0 then (match f73_61 I10 J10 s0 x2 (I10 8 7) with | (_, I12, J12) => (match f25_8 N I12 J12 with | none => none | some (_, I13, J13) => some (1, I13, J13))) else some (0, I10, J10)))
set_option maxRecDepth 100000 in
theorem f60_60_10_j90_pq {sc : List Int32} {B : xM} {N : Nat} {I : tI} {J : tJ} {x2 : Int32} {s0 : Int32} (hB : kB pT B) : ∀ {X : Option (Int32 × tI × tJ)}, f60_60_10_j90 N I J x2 s0 = X → pq sc B N (xt_60, 4, 3) 90 [(0, .ref 60), (2, .int x2)] [.int s0] I J (fun v I1 J1 => ∃ a, v = some (.int a) ∧ X = some (a, I1, J1)) := by
  intro X hq
  unfold f60_60_10_j90 at hq
  have hle : N ≤ N := Nat.le_refl N
  refine pq_s hB 3 (pc' := 95) (L' := [(3, .int s0), (0, .ref 60), (2, .int x2)]) (st' := [.ref 8]) (I' := I) (J' := J) (by with_unfolding_all rfl) ?_
  refine pq_1 rfl rfl rfl rfl (pq_le hle (f25_8_pq hB rfl)) ?_
  rintro _ I9 J9 ⟨rfl, hc9⟩
  rw [hc9] at hq
  dsimp only at hq
  refine pq_s hB 4 (pc' := 106) (L' := [(3, .int s0), (0, .ref 60), (2, .int x2)]) (st' := [.int 9999, .int 0, .ref 8]) (I' := I9) (J' := J9) (by with_unfolding_all rfl) ?_
  generalize hc10 : f37_8 I9 J9 0 9999 = q10 at hq
  obtain ⟨v10, _, _⟩ := q10
  dsimp only at hq
  refine pq_1 rfl rfl rfl rfl (f37_8_pq hB hc10) ?_
  rintro _ I10 J10 ⟨rfl, rfl, rfl⟩
  refine pq_ifn hB rfl (fun h11 => ?_) (fun h11 => ?_)
  · rw [h11, cond_true] at hq
    refine pq_s hB 7 (pc' := 127) (L' := [(3, .int s0), (0, .ref 60), (2, .int x2)]) (st' := [.int (I10 8 7), .int x2, .int s0, .ref 61]) (I' := I10) (J' := J10) (by with_unfolding_all rfl) ?_
    generalize hc12 : f73_61 I10 J10 s0 x2 (I10 8 7) = q12 at hq
    obtain ⟨v12, _, _⟩ := q12
    dsimp only at hq
    refine pq_1 rfl rfl rfl rfl (f73_61_pq hB hc12) ?_
    rintro _ I12 J12 ⟨rfl, rfl, rfl⟩
    refine pq_s hB 2 (pc' := 134) (L' := [(3, .int s0), (0, .ref 60), (2, .int x2)]) (st' := [.ref 8]) (I' := I12) (J' := J12) (by with_unfolding_all rfl) ?_
    refine pq_1 rfl rfl rfl rfl (pq_le hle (f25_8_pq hB rfl)) ?_
    rintro _ I13 J13 ⟨rfl, hc13⟩
    rw [hc13] at hq
    dsimp only at hq
    refine pq_s hB 1 (pc' := 138) (L' := [(3, .int s0), (0, .ref 60), (2, .int x2)]) (st' := [.int 1]) (I' := I13) (J' := J13) (by with_unfolding_all rfl) ?_
    subst hq
    exact pq_2i (x := 1) rfl ⟨_, rfl, rfl⟩
  · rw [h11, cond_false] at hq
    refine pq_s hB 1 (pc' := 113) (L' := [(3, .int s0), (0, .ref 60), (2, .int x2)]) (st' := [.int 0]) (I' := I10) (J' := J10) (by with_unfolding_all rfl) ?_
    subst hq
    exact pq_2i (x := 0) rfl ⟨_, rfl, rfl⟩
-- LP$RunReader.readCoinTest
def f60_60_10 (N : Nat) (I : tI) (J : tJ) : Option (Int32 × tI × tJ) :=
  (match f25_8 N I J with | none => none | some (_, I1, J1) => (match f39_8_31 N I1 J1 (I1 10 6) with | none => none | some (v2, I2, J2) => bif xcmp .ne v2 0 then (match f25_8 N I2 J2 with | none => none | some (_, I4, J4) => (match f36_8 I4 J4 with | (v5, I5, J5) => bif xcmp .ne v5 0 then (bif xcmp .ne (I5 8 7) 60 then (bif xcmp .ne (I5 8 7) 62 then f60_60_10_j90 N I5 J5 (I2 8 8) 10 else f60_60_10_j90 N I5 J5 (I2 8 8) 9) else f60_60_10_j90 N I5 J5 (I2 8 8) 8) else some (0, I5, J5))) else some (0, I2, J2)))
set_option maxRecDepth 100000 in
theorem f60_60_10_pq {sc : List Int32} {B : xM} {N : Nat} {I : tI} {J : tJ} (hB : kB pT B) : ∀ {X : Option (Int32 × tI × tJ)}, f60_60_10 N I J = X → pq sc B N (xt_60, 4, 3) 0 [(0, .ref 60), (1, .ref 10)] [] I J (fun v I1 J1 => ∃ a, v = some (.int a) ∧ X = some (a, I1, J1)) := by
  intro X hq
  unfold f60_60_10 at hq
  have hle : N ≤ N := Nat.le_refl N
  refine pq_s hB 2 (pc' := 4) (L' := [(0, .ref 60), (1, .ref 10)]) (st' := [.ref 8]) (I' := I) (J' := J) (by with_unfolding_all rfl) ?_
  refine pq_1 rfl rfl rfl rfl (pq_le hle (f25_8_pq hB rfl)) ?_
  rintro _ I1 J1 ⟨rfl, hc1⟩
  rw [hc1] at hq
  dsimp only at hq
  refine pq_s hB 6 (pc' := 19) (L' := [(0, .ref 60), (1, .ref 10)]) (st' := [.int (I1 10 6), .ref 31, .ref 8]) (I' := I1) (J' := J1) (by with_unfolding_all rfl) ?_
  refine pq_1 rfl rfl rfl rfl (pq_le hle (f39_8_31_pq hB rfl)) ?_
  rintro _ I2 J2 ⟨v2, rfl, hc2⟩
  rw [hc2] at hq
  dsimp only at hq
  refine pq_ifn hB rfl (fun h3 => ?_) (fun h3 => ?_)
  · rw [h3, cond_true] at hq
    refine pq_s hB 6 (pc' := 39) (L' := [(2, .int (I2 8 8)), (0, .ref 60), (1, .ref 10)]) (st' := [.ref 8]) (I' := I2) (J' := J2) (by with_unfolding_all rfl) ?_
    refine pq_1 rfl rfl rfl rfl (pq_le hle (f25_8_pq hB rfl)) ?_
    rintro _ I4 J4 ⟨rfl, hc4⟩
    rw [hc4] at hq
    dsimp only at hq
    refine pq_s hB 2 (pc' := 46) (L' := [(2, .int (I2 8 8)), (0, .ref 60), (1, .ref 10)]) (st' := [.ref 8]) (I' := I4) (J' := J4) (by with_unfolding_all rfl) ?_
    generalize hc5 : f36_8 I4 J4 = q5 at hq
    obtain ⟨v5, _, _⟩ := q5
    dsimp only at hq
    refine pq_1 rfl rfl rfl rfl (f36_8_pq hB hc5) ?_
    rintro _ I5 J5 ⟨rfl, rfl, rfl⟩
    refine pq_ifn hB rfl (fun h6 => ?_) (fun h6 => ?_)
    · rw [h6, cond_true] at hq
      refine pq_s hB 4 (pc' := 63) (L' := [(2, .int (I2 8 8)), (0, .ref 60), (1, .ref 10)]) (st' := [.int 60, .int (I5 8 7)]) (I' := I5) (J' := J5) (by with_unfolding_all rfl) ?_
      refine pq_icn hB rfl (fun h7 => ?_) (fun h7 => ?_)
      · rw [h7, cond_true] at hq
        refine pq_s hB 4 (pc' := 80) (L' := [(2, .int (I2 8 8)), (0, .ref 60), (1, .ref 10)]) (st' := [.int 62, .int (I5 8 7)]) (I' := I5) (J' := J5) (by with_unfolding_all rfl) ?_
        refine pq_icn hB rfl (fun h8 => ?_) (fun h8 => ?_)
        · rw [h8, cond_true] at hq
          refine pq_s hB 1 (pc' := 90) (L' := [(2, .int (I2 8 8)), (0, .ref 60), (1, .ref 10)]) (st' := [.int 10]) (I' := I5) (J' := J5) (by with_unfolding_all rfl) ?_
          refine pq_perm (L := [(0, .ref 60), (2, .int (I2 8 8))]) (leqn_of ⟨rfl, rfl, trivial⟩ ⟨rfl, rfl, trivial⟩ ⟨rfl, rfl, rfl, trivial⟩) ?_
          exact f60_60_10_j90_pq hB hq
        · rw [h8, cond_false] at hq
          refine pq_s hB 2 (pc' := 90) (L' := [(2, .int (I2 8 8)), (0, .ref 60), (1, .ref 10)]) (st' := [.int 9]) (I' := I5) (J' := J5) (by with_unfolding_all rfl) ?_
          refine pq_perm (L := [(0, .ref 60), (2, .int (I2 8 8))]) (leqn_of ⟨rfl, rfl, trivial⟩ ⟨rfl, rfl, trivial⟩ ⟨rfl, rfl, rfl, trivial⟩) ?_
          exact f60_60_10_j90_pq hB hq
      · rw [h7, cond_false] at hq
        refine pq_s hB 2 (pc' := 90) (L' := [(2, .int (I2 8 8)), (0, .ref 60), (1, .ref 10)]) (st' := [.int 8]) (I' := I5) (J' := J5) (by with_unfolding_all rfl) ?_
        refine pq_perm (L := [(0, .ref 60), (2, .int (I2 8 8))]) (leqn_of ⟨rfl, rfl, trivial⟩ ⟨rfl, rfl, trivial⟩ ⟨rfl, rfl, rfl, trivial⟩) ?_
        exact f60_60_10_j90_pq hB hq
    · rw [h6, cond_false] at hq
      refine pq_s hB 1 (pc' := 53) (L' := [(2, .int (I2 8 8)), (0, .ref 60), (1, .ref 10)]) (st' := [.int 0]) (I' := I5) (J' := J5) (by with_unfolding_all rfl) ?_
      subst hq
      exact pq_2i (x := 0) rfl ⟨_, rfl, rfl⟩
  · rw [h3, cond_false] at hq
    refine pq_s hB 1 (pc' := 26) (L' := [(0, .ref 60), (1, .ref 10)]) (st' := [.int 0]) (I' := I2) (J' := J2) (by with_unfolding_all rfl) ?_
    subst hq
    exact pq_2i (x := 0) rfl ⟨_, rfl, rfl⟩
-- LP$RunReader.readTest
def f59_60_10 (N : Nat) (I : tI) (J : tJ) : Option (Int32 × tI × tJ) :=
  bif xcmp .ne (I 8 5) 15 then (bif xcmp .ne (I 8 5) 26 then f59_60_10_j31 N I J (I 8 5) 0 else f59_60_10_j31 N I J (I 8 5) 1) else (match f60_60_10 N I J with | none => none | some (v3, I3, J3) => some (v3, I3, J3))
set_option maxRecDepth 100000 in
theorem f59_60_10_pq {sc : List Int32} {B : xM} {N : Nat} {I : tI} {J : tJ} (hB : kB pT B) : ∀ {X : Option (Int32 × tI × tJ)}, f59_60_10 N I J = X → pq sc B N (xt_59, 5, 3) 0 [(0, .ref 60), (1, .ref 10)] [] I J (fun v I1 J1 => ∃ a, v = some (.int a) ∧ X = some (a, I1, J1)) := by
  intro X hq
  unfold f59_60_10 at hq
  have hle : N ≤ N := Nat.le_refl N
  refine pq_s hB 6 (pc' := 11) (L' := [(2, .int (I 8 5)), (0, .ref 60), (1, .ref 10)]) (st' := [.int 15, .int (I 8 5)]) (I' := I) (J' := J) (by with_unfolding_all rfl) ?_
  refine pq_icn hB rfl (fun h1 => ?_) (fun h1 => ?_)
  · rw [h1, cond_true] at hq
    refine pq_s hB 2 (pc' := 23) (L' := [(2, .int (I 8 5)), (0, .ref 60), (1, .ref 10)]) (st' := [.int 26, .int (I 8 5)]) (I' := I) (J' := J) (by with_unfolding_all rfl) ?_
    refine pq_icn hB rfl (fun h2 => ?_) (fun h2 => ?_)
    · rw [h2, cond_true] at hq
      refine pq_s hB 1 (pc' := 31) (L' := [(2, .int (I 8 5)), (0, .ref 60), (1, .ref 10)]) (st' := [.int 0]) (I' := I) (J' := J) (by with_unfolding_all rfl) ?_
      refine pq_perm (L := [(0, .ref 60), (1, .ref 10), (2, .int (I 8 5))]) (leqn_of ⟨rfl, rfl, rfl, trivial⟩ ⟨rfl, rfl, rfl, trivial⟩ ⟨rfl, rfl, rfl, trivial⟩) ?_
      exact f59_60_10_j31_pq hB hq
    · rw [h2, cond_false] at hq
      refine pq_s hB 2 (pc' := 31) (L' := [(2, .int (I 8 5)), (0, .ref 60), (1, .ref 10)]) (st' := [.int 1]) (I' := I) (J' := J) (by with_unfolding_all rfl) ?_
      refine pq_perm (L := [(0, .ref 60), (1, .ref 10), (2, .int (I 8 5))]) (leqn_of ⟨rfl, rfl, rfl, trivial⟩ ⟨rfl, rfl, rfl, trivial⟩ ⟨rfl, rfl, rfl, trivial⟩) ?_
      exact f59_60_10_j31_pq hB hq
  · rw [h1, cond_false] at hq
    refine pq_s hB 2 (pc' := 16) (L' := [(2, .int (I 8 5)), (0, .ref 60), (1, .ref 10)]) (st' := [.ref 10, .ref 60]) (I' := I) (J' := J) (by with_unfolding_all rfl) ?_
    refine pq_1 rfl rfl rfl rfl (pq_le hle (f60_60_10_pq hB rfl)) ?_
    rintro _ I3 J3 ⟨v3, rfl, hc3⟩
    rw [hc3] at hq
    dsimp only at hq
    subst hq
    exact pq_2i (x := v3) rfl ⟨_, rfl, rfl⟩
-- LP$RunReader.readAct
def f54_60_10 (N : Nat) (I : tI) (J : tJ) : Option (Int32 × tI × tJ) :=
  (match f25_8 N (tup I 61 1 ((I 61 1) + 1)) J with | none => none | some (_, I1, J1) => bif xcmp .eq (I 8 5) 21 then ((match f56_60_10 N I1 J1 with | none => none | some (v3, I3, J3) => some (v3, I3, J3))) else bif xcmp .eq (I 8 5) 22 then ((match f57_60 N I1 J1 1 20 with | none => none | some (v5, I5, J5) => some (v5, I5, J5))) else bif xcmp .eq (I 8 5) 23 then ((match f58_60_10 N I1 J1 with | none => none | some (v7, I7, J7) => some (v7, I7, J7))) else bif xcmp .eq (I 8 5) 24 then ((match f73_61 I1 J1 3 0 0 with | (_, I9, J9) => some (1, I9, J9))) else bif xcmp .eq (I 8 5) 25 then ((match f55_60 I1 J1 with | (_, I11, J11) => (match f59_60_10 N I11 J11 with | none => none | some (v12, I12, J12) => some (v12, I12, J12)))) else bif xcmp .eq (I 8 5) 28 then ((match f55_60 I1 J1 with | (_, I14, J14) => (match f57_60 N I14 J14 5 99 with | none => none | some (v15, I15, J15) => some (v15, I15, J15)))) else (match f73_61 I1 J1 4 0 0 with | (_, I16, J16) => some (1, I16, J16)))
set_option maxRecDepth 100000 in
theorem f54_60_10_pq {sc : List Int32} {B : xM} {N : Nat} {I : tI} {J : tJ} (hB : kB pT B) : ∀ {X : Option (Int32 × tI × tJ)}, f54_60_10 N I J = X → pq sc B N (xt_54, 3, 3) 0 [(0, .ref 60), (1, .ref 10)] [] I J (fun v I1 J1 => ∃ a, v = some (.int a) ∧ X = some (a, I1, J1)) := by
  intro X hq
  unfold f54_60_10 at hq
  have hle : N ≤ N := Nat.le_refl N
  refine pq_s hB 13 (pc' := 25) (L' := [(2, .int (I 8 5)), (0, .ref 60), (1, .ref 10)]) (st' := [.ref 8]) (I' := (tup I 61 1 ((I 61 1) + 1))) (J' := J) (by with_unfolding_all rfl) ?_
  refine pq_1 rfl rfl rfl rfl (pq_le hle (f25_8_pq hB rfl)) ?_
  rintro _ I1 J1 ⟨rfl, hc1⟩
  rw [hc1] at hq
  dsimp only at hq
  refine pq_s hB 1 (pc' := 29) (L' := [(2, .int (I 8 5)), (0, .ref 60), (1, .ref 10)]) (st' := [.int (I 8 5)]) (I' := I1) (J' := J1) (by with_unfolding_all rfl) ?_
  cases h2 : xcmp .eq (I 8 5) 21 with
  | true =>
    rw [h2, cond_true] at hq
    refine pq_tsw_k hB (c := 21) (t := 76) rfl h2 rfl ?_
    refine pq_s hB 2 (pc' := 78) (L' := [(2, .int (I 8 5)), (0, .ref 60), (1, .ref 10)]) (st' := [.ref 10, .ref 60]) (I' := I1) (J' := J1) (by with_unfolding_all rfl) ?_
    refine pq_1 rfl rfl rfl rfl (pq_le hle (f56_60_10_pq hB rfl)) ?_
    rintro _ I3 J3 ⟨v3, rfl, hc3⟩
    rw [hc3] at hq
    dsimp only at hq
    subst hq
    exact pq_2i (x := v3) rfl ⟨_, rfl, rfl⟩
  | false =>
    rw [h2, cond_false] at hq
    cases h4 : xcmp .eq (I 8 5) 22 with
    | true =>
      rw [h4, cond_true] at hq
      refine pq_tsw_k hB (c := 22) (t := 82) rfl h4 rfl ?_
      refine pq_s hB 3 (pc' := 86) (L' := [(2, .int (I 8 5)), (0, .ref 60), (1, .ref 10)]) (st' := [.int 20, .int 1, .ref 60]) (I' := I1) (J' := J1) (by with_unfolding_all rfl) ?_
      refine pq_1 rfl rfl rfl rfl (pq_le hle (f57_60_pq hB rfl)) ?_
      rintro _ I5 J5 ⟨v5, rfl, hc5⟩
      rw [hc5] at hq
      dsimp only at hq
      subst hq
      exact pq_2i (x := v5) rfl ⟨_, rfl, rfl⟩
    | false =>
      rw [h4, cond_false] at hq
      cases h6 : xcmp .eq (I 8 5) 23 with
      | true =>
        rw [h6, cond_true] at hq
        refine pq_tsw_k hB (c := 23) (t := 90) rfl h6 rfl ?_
        refine pq_s hB 2 (pc' := 92) (L' := [(2, .int (I 8 5)), (0, .ref 60), (1, .ref 10)]) (st' := [.ref 10, .ref 60]) (I' := I1) (J' := J1) (by with_unfolding_all rfl) ?_
        refine pq_1 rfl rfl rfl rfl (pq_le hle (f58_60_10_pq hB rfl)) ?_
        rintro _ I7 J7 ⟨v7, rfl, hc7⟩
        rw [hc7] at hq
        dsimp only at hq
        subst hq
        exact pq_2i (x := v7) rfl ⟨_, rfl, rfl⟩
      | false =>
        rw [h6, cond_false] at hq
        cases h8 : xcmp .eq (I 8 5) 24 with
        | true =>
          rw [h8, cond_true] at hq
          refine pq_tsw_k hB (c := 24) (t := 118) rfl h8 rfl ?_
          refine pq_s hB 5 (pc' := 125) (L' := [(2, .int (I 8 5)), (0, .ref 60), (1, .ref 10)]) (st' := [.int 0, .int 0, .int 3, .ref 61]) (I' := I1) (J' := J1) (by with_unfolding_all rfl) ?_
          generalize hc9 : f73_61 I1 J1 3 0 0 = q9 at hq
          obtain ⟨v9, _, _⟩ := q9
          dsimp only at hq
          refine pq_1 rfl rfl rfl rfl (f73_61_pq hB hc9) ?_
          rintro _ I9 J9 ⟨rfl, rfl, rfl⟩
          refine pq_s hB 1 (pc' := 129) (L' := [(2, .int (I 8 5)), (0, .ref 60), (1, .ref 10)]) (st' := [.int 1]) (I' := I9) (J' := J9) (by with_unfolding_all rfl) ?_
          subst hq
          exact pq_2i (x := 1) rfl ⟨_, rfl, rfl⟩
        | false =>
          rw [h8, cond_false] at hq
          cases h10 : xcmp .eq (I 8 5) 25 with
          | true =>
            rw [h10, cond_true] at hq
            refine pq_tsw_k hB (c := 25) (t := 96) rfl h10 rfl ?_
            refine pq_s hB 1 (pc' := 97) (L' := [(2, .int (I 8 5)), (0, .ref 60), (1, .ref 10)]) (st' := [.ref 60]) (I' := I1) (J' := J1) (by with_unfolding_all rfl) ?_
            generalize hc11 : f55_60 I1 J1 = q11 at hq
            obtain ⟨v11, _, _⟩ := q11
            dsimp only at hq
            refine pq_1 rfl rfl rfl rfl (f55_60_pq hB hc11) ?_
            rintro _ I11 J11 ⟨rfl, rfl, rfl⟩
            refine pq_s hB 2 (pc' := 102) (L' := [(2, .int (I 8 5)), (0, .ref 60), (1, .ref 10)]) (st' := [.ref 10, .ref 60]) (I' := I11) (J' := J11) (by with_unfolding_all rfl) ?_
            refine pq_1 rfl rfl rfl rfl (pq_le hle (f59_60_10_pq hB rfl)) ?_
            rintro _ I12 J12 ⟨v12, rfl, hc12⟩
            rw [hc12] at hq
            dsimp only at hq
            subst hq
            exact pq_2i (x := v12) rfl ⟨_, rfl, rfl⟩
          | false =>
            rw [h10, cond_false] at hq
            cases h13 : xcmp .eq (I 8 5) 28 with
            | true =>
              rw [h13, cond_true] at hq
              refine pq_tsw_k hB (c := 28) (t := 106) rfl h13 rfl ?_
              refine pq_s hB 1 (pc' := 107) (L' := [(2, .int (I 8 5)), (0, .ref 60), (1, .ref 10)]) (st' := [.ref 60]) (I' := I1) (J' := J1) (by with_unfolding_all rfl) ?_
              generalize hc14 : f55_60 I1 J1 = q14 at hq
              obtain ⟨v14, _, _⟩ := q14
              dsimp only at hq
              refine pq_1 rfl rfl rfl rfl (f55_60_pq hB hc14) ?_
              rintro _ I14 J14 ⟨rfl, rfl, rfl⟩
              refine pq_s hB 3 (pc' := 114) (L' := [(2, .int (I 8 5)), (0, .ref 60), (1, .ref 10)]) (st' := [.int 99, .int 5, .ref 60]) (I' := I14) (J' := J14) (by with_unfolding_all rfl) ?_
              refine pq_1 rfl rfl rfl rfl (pq_le hle (f57_60_pq hB rfl)) ?_
              rintro _ I15 J15 ⟨v15, rfl, hc15⟩
              rw [hc15] at hq
              dsimp only at hq
              subst hq
              exact pq_2i (x := v15) rfl ⟨_, rfl, rfl⟩
            | false =>
              rw [h13, cond_false] at hq
              refine pq_tsw_d hB (cs := [21, 22, 23, 24, 25, 28]) rfl rfl rfl (List.forall_mem_cons.mpr ⟨h2, List.forall_mem_cons.mpr ⟨h4, List.forall_mem_cons.mpr ⟨h6, List.forall_mem_cons.mpr ⟨h8, List.forall_mem_cons.mpr ⟨h10, List.forall_mem_cons.mpr ⟨h13, fun c hc => by cases hc⟩⟩⟩⟩⟩⟩) ?_
              show pq sc B _ _ 130 _ _ _ _ _
              refine pq_s hB 5 (pc' := 137) (L' := [(2, .int (I 8 5)), (0, .ref 60), (1, .ref 10)]) (st' := [.int 0, .int 0, .int 4, .ref 61]) (I' := I1) (J' := J1) (by with_unfolding_all rfl) ?_
              generalize hc16 : f73_61 I1 J1 4 0 0 = q16 at hq
              obtain ⟨v16, _, _⟩ := q16
              dsimp only at hq
              refine pq_1 rfl rfl rfl rfl (f73_61_pq hB hc16) ?_
              rintro _ I16 J16 ⟨rfl, rfl, rfl⟩
              refine pq_s hB 1 (pc' := 141) (L' := [(2, .int (I 8 5)), (0, .ref 60), (1, .ref 10)]) (st' := [.int 1]) (I' := I16) (J' := J16) (by with_unfolding_all rfl) ?_
              subst hq
              exact pq_2i (x := 1) rfl ⟨_, rfl, rfl⟩
-- LP$RunReader.readEnd
def f53_60 (N : Nat) (I : tI) (J : tJ) : Option (Int32 × tI × tJ) :=
  bif xcmp .ge (I 60 3) 1 then (match f73_61 (tup (tup I 60 3 ((I 60 3) - 1)) 65 (((I 66 ((((I 60 3) - 1))).toNatClampNeg)).toNatClampNeg) (I 61 2)) J 11 0 0 with | (_, I2, J2) => (match f25_8 N (tup I2 65 ((((I2 61 2) - 1)).toNatClampNeg) (I 66 ((((I 60 3) - 1))).toNatClampNeg)) J2 with | none => none | some (_, I3, J3) => some (1, I3, J3))) else (match f33_8 I J 2 with | (v4, I4, J4) => some (v4, I4, J4))
set_option maxRecDepth 100000 in
theorem f53_60_pq {sc : List Int32} {B : xM} {N : Nat} {I : tI} {J : tJ} (hB : kB pT B) : ∀ {X : Option (Int32 × tI × tJ)}, f53_60 N I J = X → pq sc B N (xt_53, 2, 3) 0 [(0, .ref 60)] [] I J (fun v I1 J1 => ∃ a, v = some (.int a) ∧ X = some (a, I1, J1)) := by
  intro X hq
  unfold f53_60 at hq
  have hle : N ≤ N := Nat.le_refl N
  refine pq_s hB 3 (pc' := 5) (L' := [(0, .ref 60)]) (st' := [.int 1, .int (I 60 3)]) (I' := I) (J' := J) (by with_unfolding_all rfl) ?_
  refine pq_icn hB rfl (fun h1 => ?_) (fun h1 => ?_)
  · rw [h1, cond_true] at hq
    refine pq_s hB 25 (pc' := 61) (L' := [(1, .int (I 66 ((((I 60 3) - 1))).toNatClampNeg)), (0, .ref 60)]) (st' := [.int 0, .int 0, .int 11, .ref 61]) (I' := (tup (tup I 60 3 ((I 60 3) - 1)) 65 (((I 66 ((((I 60 3) - 1))).toNatClampNeg)).toNatClampNeg) (I 61 2))) (J' := J) (by with_unfolding_all rfl) ?_
    generalize hc2 : f73_61 (tup (tup I 60 3 ((I 60 3) - 1)) 65 (((I 66 ((((I 60 3) - 1))).toNatClampNeg)).toNatClampNeg) (I 61 2)) J 11 0 0 = q2 at hq
    obtain ⟨v2, _, _⟩ := q2
    dsimp only at hq
    refine pq_1 rfl rfl rfl rfl (f73_61_pq hB hc2) ?_
    rintro _ I2 J2 ⟨rfl, rfl, rfl⟩
    refine pq_s hB 12 (pc' := 86) (L' := [(1, .int (I 66 ((((I 60 3) - 1))).toNatClampNeg)), (0, .ref 60)]) (st' := [.ref 8]) (I' := (tup I2 65 ((((I2 61 2) - 1)).toNatClampNeg) (I 66 ((((I 60 3) - 1))).toNatClampNeg))) (J' := J2) (by with_unfolding_all rfl) ?_
    refine pq_1 rfl rfl rfl rfl (pq_le hle (f25_8_pq hB rfl)) ?_
    rintro _ I3 J3 ⟨rfl, hc3⟩
    rw [hc3] at hq
    dsimp only at hq
    refine pq_s hB 1 (pc' := 90) (L' := [(1, .int (I 66 ((((I 60 3) - 1))).toNatClampNeg)), (0, .ref 60)]) (st' := [.int 1]) (I' := I3) (J' := J3) (by with_unfolding_all rfl) ?_
    subst hq
    exact pq_2i (x := 1) rfl ⟨_, rfl, rfl⟩
  · rw [h1, cond_false] at hq
    refine pq_s hB 3 (pc' := 13) (L' := [(0, .ref 60)]) (st' := [.int 2, .ref 8]) (I' := I) (J' := J) (by with_unfolding_all rfl) ?_
    generalize hc4 : f33_8 I J 2 = q4 at hq
    obtain ⟨v4, _, _⟩ := q4
    dsimp only at hq
    refine pq_1 rfl rfl rfl rfl (f33_8_pq hB hc4) ?_
    rintro _ I4 J4 ⟨rfl, rfl, rfl⟩
    subst hq
    exact pq_2i (x := v4) rfl ⟨_, rfl, rfl⟩
-- LP$RunReader.reads, the loop at 25, to [113]
def f51_60_10_l25 (N : Nat) : Nat → tI → tJ → Int32 → Int32 → Option (Int32 × Int32 × tI × tJ)
  | 0, _, _, _, _ => none
  | k + 1, I, J, x3, x4 =>
    bif xcmp .ge x4 300 then some (x3, x4, I, J) else bif xcmp .eq x3 0 then some (x3, x4, I, J) else (match f32_8 I J with | (v5, I5, J5) => bif xcmp .ne v5 0 then some (x3, x4, I5, J5) else bif xcmp .ne (I5 8 5) 29 then (match f52_60 I5 J5 with | (v8, I8, J8) => bif xcmp .eq v8 0 then (bif xcmp .eq 0 0 then f51_60_10_l25 N k I8 J8 0 (x4 + 1) else (match f35_8 N I8 J8 with | none => none | some (v11, I11, J11) => bif xcmp .eq v11 0 then f51_60_10_l25 N k I11 J11 0 (x4 + 1) else f51_60_10_l25 N k I11 J11 1 (x4 + 1))) else (match f54_60_10 N I8 J8 with | none => none | some (v13, I13, J13) => bif xcmp .eq v13 0 then (bif xcmp .eq 0 0 then f51_60_10_l25 N k I13 J13 0 (x4 + 1) else (match f35_8 N I13 J13 with | none => none | some (v16, I16, J16) => bif xcmp .eq v16 0 then f51_60_10_l25 N k I16 J16 0 (x4 + 1) else f51_60_10_l25 N k I16 J16 1 (x4 + 1))) else bif xcmp .eq 1 0 then f51_60_10_l25 N k I13 J13 0 (x4 + 1) else (match f35_8 N I13 J13 with | none => none | some (v19, I19, J19) => bif xcmp .eq v19 0 then f51_60_10_l25 N k I19 J19 0 (x4 + 1) else f51_60_10_l25 N k I19 J19 1 (x4 + 1)))) else (match f53_60 N I5 J5 with | none => none | some (v21, I21, J21) => bif xcmp .eq v21 0 then f51_60_10_l25 N k I21 J21 0 (x4 + 1) else (match f35_8 N I21 J21 with | none => none | some (v23, I23, J23) => bif xcmp .eq v23 0 then f51_60_10_l25 N k I23 J23 0 (x4 + 1) else f51_60_10_l25 N k I23 J23 1 (x4 + 1))))
set_option maxRecDepth 100000 in
theorem f51_60_10_l25_pq {sc : List Int32} {B : xM} {N : Nat} {P : Option Value → tI → tJ → Prop} (hB : kB pT B) : ∀ (k : Nat), k ≤ N → ∀ (b m : Nat), b ≤ k → b ≤ m → ∀ {I : tI} {J : tJ} {x3 : Int32} {x4 : Int32} {Y : Option (Int32 × Int32 × tI × tJ)}, f51_60_10_l25 N k I J x3 x4 = Y → (∀ {y3 : Int32} {y4 : Int32} {I1 : tI} {J1 : tJ}, Y = some (y3, y4, I1, J1) → pq sc B m (xt_51, 5, 3) 113 [(0, .ref 60), (1, .ref 10), (3, .int y3), (4, .int y4)] [] I1 J1 P) → pq sc B b (xt_51, 5, 3) 25 [(0, .ref 60), (1, .ref 10), (3, .int x3), (4, .int x4)] [] I J P
  | 0, _, b, _, hb, _, _, _, _, _, _, _, _ => by
    have e : b = 0 := by omega
    subst e
    exact pq_zero
  | _ + 1, _, 0, _, _, _, _, _, _, _, _, _, _ => pq_zero
  | k + 1, hk, b + 1, m, hb, hm, I, J, x3, x4, Y, hq, hx0 => by
    unfold f51_60_10_l25 at hq
    have hle : b ≤ N := by omega
    refine pq_s1 hB 1 (pc' := 30) (L' := [(0, .ref 60), (1, .ref 10), (3, .int x3), (4, .int x4)]) (st' := [.int 300, .int x4]) (I' := I) (J' := J) (by with_unfolding_all rfl) ?_
    refine pq_icn hB rfl (fun h3 => ?_) (fun h3 => ?_)
    · rw [h3, cond_true] at hq
      exact pq_le (by omega) (hx0 hq.symm)
    · rw [h3, cond_false] at hq
      refine pq_s hB 1 (pc' := 34) (L' := [(0, .ref 60), (1, .ref 10), (3, .int x3), (4, .int x4)]) (st' := [.int x3]) (I' := I) (J' := J) (by with_unfolding_all rfl) ?_
      refine pq_ifn hB rfl (fun h4 => ?_) (fun h4 => ?_)
      · rw [h4, cond_true] at hq
        exact pq_le (by omega) (hx0 hq.symm)
      · rw [h4, cond_false] at hq
        refine pq_s hB 2 (pc' := 41) (L' := [(0, .ref 60), (1, .ref 10), (3, .int x3), (4, .int x4)]) (st' := [.ref 8]) (I' := I) (J' := J) (by with_unfolding_all rfl) ?_
        generalize hc5 : f32_8 I J = q5 at hq
        obtain ⟨v5, _, _⟩ := q5
        dsimp only at hq
        refine pq_1 rfl rfl rfl rfl (f32_8_pq hB hc5) ?_
        rintro _ I5 J5 ⟨rfl, rfl, rfl⟩
        refine pq_ifn hB rfl (fun h6 => ?_) (fun h6 => ?_)
        · rw [h6, cond_true] at hq
          exact pq_le (by omega) (hx0 hq.symm)
        · rw [h6, cond_false] at hq
          refine pq_s hB 4 (pc' := 56) (L' := [(0, .ref 60), (1, .ref 10), (3, .int x3), (4, .int x4)]) (st' := [.int 29, .int (I5 8 5)]) (I' := I5) (J' := J5) (by with_unfolding_all rfl) ?_
          refine pq_icn hB rfl (fun h7 => ?_) (fun h7 => ?_)
          · rw [h7, cond_true] at hq
            refine pq_s hB 1 (pc' := 67) (L' := [(0, .ref 60), (1, .ref 10), (3, .int x3), (4, .int x4)]) (st' := [.ref 60]) (I' := I5) (J' := J5) (by with_unfolding_all rfl) ?_
            generalize hc8 : f52_60 I5 J5 = q8 at hq
            obtain ⟨v8, _, _⟩ := q8
            dsimp only at hq
            refine pq_1 rfl rfl rfl rfl (f52_60_pq hB hc8) ?_
            rintro _ I8 J8 ⟨rfl, rfl, rfl⟩
            refine pq_ifn hB rfl (fun h9 => ?_) (fun h9 => ?_)
            · rw [h9, cond_true] at hq
              refine pq_s hB 3 (pc' := 88) (L' := [(3, .int 0), (0, .ref 60), (1, .ref 10), (4, .int x4)]) (st' := [.int 0]) (I' := I8) (J' := J8) (by with_unfolding_all rfl) ?_
              refine pq_ifn hB rfl (fun h10 => ?_) (fun h10 => ?_)
              · rw [h10, cond_true] at hq
                refine pq_s hB 4 (pc' := 25) (L' := [(4, .int (x4 + 1)), (3, .int 0), (0, .ref 60), (1, .ref 10)]) (st' := []) (I' := I8) (J' := J8) (by with_unfolding_all rfl) ?_
                refine pq_perm (L := [(0, .ref 60), (1, .ref 10), (3, .int 0), (4, .int (x4 + 1))]) (leqn_of ⟨rfl, rfl, rfl, rfl, trivial⟩ ⟨rfl, rfl, rfl, rfl, trivial⟩ ⟨rfl, rfl, rfl, rfl, trivial⟩) ?_
                exact f51_60_10_l25_pq hB k (by omega) b m (by omega) (by omega) hq hx0
              · rw [h10, cond_false] at hq
                refine pq_s hB 2 (pc' := 95) (L' := [(3, .int 0), (0, .ref 60), (1, .ref 10), (4, .int x4)]) (st' := [.ref 8]) (I' := I8) (J' := J8) (by with_unfolding_all rfl) ?_
                refine pq_1 rfl rfl rfl rfl (pq_le hle (f35_8_pq hB rfl)) ?_
                rintro _ I11 J11 ⟨v11, rfl, hc11⟩
                rw [hc11] at hq
                dsimp only at hq
                refine pq_ifn hB rfl (fun h12 => ?_) (fun h12 => ?_)
                · rw [h12, cond_true] at hq
                  refine pq_s hB 4 (pc' := 25) (L' := [(4, .int (x4 + 1)), (3, .int 0), (0, .ref 60), (1, .ref 10)]) (st' := []) (I' := I11) (J' := J11) (by with_unfolding_all rfl) ?_
                  refine pq_perm (L := [(0, .ref 60), (1, .ref 10), (3, .int 0), (4, .int (x4 + 1))]) (leqn_of ⟨rfl, rfl, rfl, rfl, trivial⟩ ⟨rfl, rfl, rfl, rfl, trivial⟩ ⟨rfl, rfl, rfl, rfl, trivial⟩) ?_
                  exact f51_60_10_l25_pq hB k (by omega) b m (by omega) (by omega) hq hx0
                · rw [h12, cond_false] at hq
                  refine pq_s hB 5 (pc' := 25) (L' := [(4, .int (x4 + 1)), (3, .int 1), (0, .ref 60), (1, .ref 10)]) (st' := []) (I' := I11) (J' := J11) (by with_unfolding_all rfl) ?_
                  refine pq_perm (L := [(0, .ref 60), (1, .ref 10), (3, .int 1), (4, .int (x4 + 1))]) (leqn_of ⟨rfl, rfl, rfl, rfl, trivial⟩ ⟨rfl, rfl, rfl, rfl, trivial⟩ ⟨rfl, rfl, rfl, rfl, trivial⟩) ?_
                  exact f51_60_10_l25_pq hB k (by omega) b m (by omega) (by omega) hq hx0
            · rw [h9, cond_false] at hq
              refine pq_s hB 2 (pc' := 75) (L' := [(0, .ref 60), (1, .ref 10), (3, .int x3), (4, .int x4)]) (st' := [.ref 10, .ref 60]) (I' := I8) (J' := J8) (by with_unfolding_all rfl) ?_
              refine pq_1 rfl rfl rfl rfl (pq_le hle (f54_60_10_pq hB rfl)) ?_
              rintro _ I13 J13 ⟨v13, rfl, hc13⟩
              rw [hc13] at hq
              dsimp only at hq
              refine pq_ifn hB rfl (fun h14 => ?_) (fun h14 => ?_)
              · rw [h14, cond_true] at hq
                refine pq_s hB 3 (pc' := 88) (L' := [(3, .int 0), (0, .ref 60), (1, .ref 10), (4, .int x4)]) (st' := [.int 0]) (I' := I13) (J' := J13) (by with_unfolding_all rfl) ?_
                refine pq_ifn hB rfl (fun h15 => ?_) (fun h15 => ?_)
                · rw [h15, cond_true] at hq
                  refine pq_s hB 4 (pc' := 25) (L' := [(4, .int (x4 + 1)), (3, .int 0), (0, .ref 60), (1, .ref 10)]) (st' := []) (I' := I13) (J' := J13) (by with_unfolding_all rfl) ?_
                  refine pq_perm (L := [(0, .ref 60), (1, .ref 10), (3, .int 0), (4, .int (x4 + 1))]) (leqn_of ⟨rfl, rfl, rfl, rfl, trivial⟩ ⟨rfl, rfl, rfl, rfl, trivial⟩ ⟨rfl, rfl, rfl, rfl, trivial⟩) ?_
                  exact f51_60_10_l25_pq hB k (by omega) b m (by omega) (by omega) hq hx0
                · rw [h15, cond_false] at hq
                  refine pq_s hB 2 (pc' := 95) (L' := [(3, .int 0), (0, .ref 60), (1, .ref 10), (4, .int x4)]) (st' := [.ref 8]) (I' := I13) (J' := J13) (by with_unfolding_all rfl) ?_
                  refine pq_1 rfl rfl rfl rfl (pq_le hle (f35_8_pq hB rfl)) ?_
                  rintro _ I16 J16 ⟨v16, rfl, hc16⟩
                  rw [hc16] at hq
                  dsimp only at hq
                  refine pq_ifn hB rfl (fun h17 => ?_) (fun h17 => ?_)
                  · rw [h17, cond_true] at hq
                    refine pq_s hB 4 (pc' := 25) (L' := [(4, .int (x4 + 1)), (3, .int 0), (0, .ref 60), (1, .ref 10)]) (st' := []) (I' := I16) (J' := J16) (by with_unfolding_all rfl) ?_
                    refine pq_perm (L := [(0, .ref 60), (1, .ref 10), (3, .int 0), (4, .int (x4 + 1))]) (leqn_of ⟨rfl, rfl, rfl, rfl, trivial⟩ ⟨rfl, rfl, rfl, rfl, trivial⟩ ⟨rfl, rfl, rfl, rfl, trivial⟩) ?_
                    exact f51_60_10_l25_pq hB k (by omega) b m (by omega) (by omega) hq hx0
                  · rw [h17, cond_false] at hq
                    refine pq_s hB 5 (pc' := 25) (L' := [(4, .int (x4 + 1)), (3, .int 1), (0, .ref 60), (1, .ref 10)]) (st' := []) (I' := I16) (J' := J16) (by with_unfolding_all rfl) ?_
                    refine pq_perm (L := [(0, .ref 60), (1, .ref 10), (3, .int 1), (4, .int (x4 + 1))]) (leqn_of ⟨rfl, rfl, rfl, rfl, trivial⟩ ⟨rfl, rfl, rfl, rfl, trivial⟩ ⟨rfl, rfl, rfl, rfl, trivial⟩) ?_
                    exact f51_60_10_l25_pq hB k (by omega) b m (by omega) (by omega) hq hx0
              · rw [h14, cond_false] at hq
                refine pq_s hB 4 (pc' := 88) (L' := [(3, .int 1), (0, .ref 60), (1, .ref 10), (4, .int x4)]) (st' := [.int 1]) (I' := I13) (J' := J13) (by with_unfolding_all rfl) ?_
                refine pq_ifn hB rfl (fun h18 => ?_) (fun h18 => ?_)
                · rw [h18, cond_true] at hq
                  refine pq_s hB 4 (pc' := 25) (L' := [(4, .int (x4 + 1)), (3, .int 0), (0, .ref 60), (1, .ref 10)]) (st' := []) (I' := I13) (J' := J13) (by with_unfolding_all rfl) ?_
                  refine pq_perm (L := [(0, .ref 60), (1, .ref 10), (3, .int 0), (4, .int (x4 + 1))]) (leqn_of ⟨rfl, rfl, rfl, rfl, trivial⟩ ⟨rfl, rfl, rfl, rfl, trivial⟩ ⟨rfl, rfl, rfl, rfl, trivial⟩) ?_
                  exact f51_60_10_l25_pq hB k (by omega) b m (by omega) (by omega) hq hx0
                · rw [h18, cond_false] at hq
                  refine pq_s hB 2 (pc' := 95) (L' := [(3, .int 1), (0, .ref 60), (1, .ref 10), (4, .int x4)]) (st' := [.ref 8]) (I' := I13) (J' := J13) (by with_unfolding_all rfl) ?_
                  refine pq_1 rfl rfl rfl rfl (pq_le hle (f35_8_pq hB rfl)) ?_
                  rintro _ I19 J19 ⟨v19, rfl, hc19⟩
                  rw [hc19] at hq
                  dsimp only at hq
                  refine pq_ifn hB rfl (fun h20 => ?_) (fun h20 => ?_)
                  · rw [h20, cond_true] at hq
                    refine pq_s hB 4 (pc' := 25) (L' := [(4, .int (x4 + 1)), (3, .int 0), (0, .ref 60), (1, .ref 10)]) (st' := []) (I' := I19) (J' := J19) (by with_unfolding_all rfl) ?_
                    refine pq_perm (L := [(0, .ref 60), (1, .ref 10), (3, .int 0), (4, .int (x4 + 1))]) (leqn_of ⟨rfl, rfl, rfl, rfl, trivial⟩ ⟨rfl, rfl, rfl, rfl, trivial⟩ ⟨rfl, rfl, rfl, rfl, trivial⟩) ?_
                    exact f51_60_10_l25_pq hB k (by omega) b m (by omega) (by omega) hq hx0
                  · rw [h20, cond_false] at hq
                    refine pq_s hB 5 (pc' := 25) (L' := [(4, .int (x4 + 1)), (3, .int 1), (0, .ref 60), (1, .ref 10)]) (st' := []) (I' := I19) (J' := J19) (by with_unfolding_all rfl) ?_
                    refine pq_perm (L := [(0, .ref 60), (1, .ref 10), (3, .int 1), (4, .int (x4 + 1))]) (leqn_of ⟨rfl, rfl, rfl, rfl, trivial⟩ ⟨rfl, rfl, rfl, rfl, trivial⟩ ⟨rfl, rfl, rfl, rfl, trivial⟩) ?_
                    exact f51_60_10_l25_pq hB k (by omega) b m (by omega) (by omega) hq hx0
          · rw [h7, cond_false] at hq
            refine pq_s hB 1 (pc' := 60) (L' := [(0, .ref 60), (1, .ref 10), (3, .int x3), (4, .int x4)]) (st' := [.ref 60]) (I' := I5) (J' := J5) (by with_unfolding_all rfl) ?_
            refine pq_1 rfl rfl rfl rfl (pq_le hle (f53_60_pq hB rfl)) ?_
            rintro _ I21 J21 ⟨v21, rfl, hc21⟩
            rw [hc21] at hq
            dsimp only at hq
            refine pq_s hB 3 (pc' := 88) (L' := [(3, .int v21), (0, .ref 60), (1, .ref 10), (4, .int x4)]) (st' := [.int v21]) (I' := I21) (J' := J21) (by with_unfolding_all rfl) ?_
            refine pq_ifn hB rfl (fun h22 => ?_) (fun h22 => ?_)
            · rw [h22, cond_true] at hq
              refine pq_s hB 4 (pc' := 25) (L' := [(4, .int (x4 + 1)), (3, .int 0), (0, .ref 60), (1, .ref 10)]) (st' := []) (I' := I21) (J' := J21) (by with_unfolding_all rfl) ?_
              refine pq_perm (L := [(0, .ref 60), (1, .ref 10), (3, .int 0), (4, .int (x4 + 1))]) (leqn_of ⟨rfl, rfl, rfl, rfl, trivial⟩ ⟨rfl, rfl, rfl, rfl, trivial⟩ ⟨rfl, rfl, rfl, rfl, trivial⟩) ?_
              exact f51_60_10_l25_pq hB k (by omega) b m (by omega) (by omega) hq hx0
            · rw [h22, cond_false] at hq
              refine pq_s hB 2 (pc' := 95) (L' := [(3, .int v21), (0, .ref 60), (1, .ref 10), (4, .int x4)]) (st' := [.ref 8]) (I' := I21) (J' := J21) (by with_unfolding_all rfl) ?_
              refine pq_1 rfl rfl rfl rfl (pq_le hle (f35_8_pq hB rfl)) ?_
              rintro _ I23 J23 ⟨v23, rfl, hc23⟩
              rw [hc23] at hq
              dsimp only at hq
              refine pq_ifn hB rfl (fun h24 => ?_) (fun h24 => ?_)
              · rw [h24, cond_true] at hq
                refine pq_s hB 4 (pc' := 25) (L' := [(4, .int (x4 + 1)), (3, .int 0), (0, .ref 60), (1, .ref 10)]) (st' := []) (I' := I23) (J' := J23) (by with_unfolding_all rfl) ?_
                refine pq_perm (L := [(0, .ref 60), (1, .ref 10), (3, .int 0), (4, .int (x4 + 1))]) (leqn_of ⟨rfl, rfl, rfl, rfl, trivial⟩ ⟨rfl, rfl, rfl, rfl, trivial⟩ ⟨rfl, rfl, rfl, rfl, trivial⟩) ?_
                exact f51_60_10_l25_pq hB k (by omega) b m (by omega) (by omega) hq hx0
              · rw [h24, cond_false] at hq
                refine pq_s hB 5 (pc' := 25) (L' := [(4, .int (x4 + 1)), (3, .int 1), (0, .ref 60), (1, .ref 10)]) (st' := []) (I' := I23) (J' := J23) (by with_unfolding_all rfl) ?_
                refine pq_perm (L := [(0, .ref 60), (1, .ref 10), (3, .int 1), (4, .int (x4 + 1))]) (leqn_of ⟨rfl, rfl, rfl, rfl, trivial⟩ ⟨rfl, rfl, rfl, rfl, trivial⟩ ⟨rfl, rfl, rfl, rfl, trivial⟩) ?_
                exact f51_60_10_l25_pq hB k (by omega) b m (by omega) (by omega) hq hx0
-- LP$RunReader.reads, from 113 on
def f51_60_10_j113 (N : Nat) (I : tI) (J : tJ) (x3 : Int32) : Option (Int32 × tI × tJ) :=
  bif xcmp .eq x3 0 then some (0, (tup I 61 0 1), J) else bif xcmp .eq (I 60 3) 0 then some (1, (tup I 61 0 1), J) else (match f33_8 (tup I 61 0 1) J 2 with | (v6, I6, J6) => bif xcmp .eq v6 0 then some (0, I6, J6) else some (1, I6, J6))
set_option maxRecDepth 100000 in
theorem f51_60_10_j113_pq {sc : List Int32} {B : xM} {N : Nat} {I : tI} {J : tJ} {x3 : Int32} (hB : kB pT B) : ∀ {X : Option (Int32 × tI × tJ)}, f51_60_10_j113 N I J x3 = X → pq sc B N (xt_51, 5, 3) 113 [(0, .ref 60), (3, .int x3)] [] I J (fun v I1 J1 => ∃ a, v = some (.int a) ∧ X = some (a, I1, J1)) := by
  intro X hq
  unfold f51_60_10_j113 at hq
  have hle : N ≤ N := Nat.le_refl N
  refine pq_s hB 5 (pc' := 122) (L' := [(0, .ref 60), (3, .int x3)]) (st' := [.int x3]) (I' := (tup I 61 0 1)) (J' := J) (by with_unfolding_all rfl) ?_
  refine pq_ifn hB rfl (fun h4 => ?_) (fun h4 => ?_)
  · rw [h4, cond_true] at hq
    refine pq_s hB 1 (pc' := 148) (L' := [(0, .ref 60), (3, .int x3)]) (st' := [.int 0]) (I' := (tup I 61 0 1)) (J' := J) (by with_unfolding_all rfl) ?_
    subst hq
    exact pq_2i (x := 0) rfl ⟨_, rfl, rfl⟩
  · rw [h4, cond_false] at hq
    refine pq_s hB 2 (pc' := 129) (L' := [(0, .ref 60), (3, .int x3)]) (st' := [.int (I 60 3)]) (I' := (tup I 61 0 1)) (J' := J) (by with_unfolding_all rfl) ?_
    refine pq_ifn hB rfl (fun h5 => ?_) (fun h5 => ?_)
    · rw [h5, cond_true] at hq
      refine pq_s hB 2 (pc' := 148) (L' := [(0, .ref 60), (3, .int x3)]) (st' := [.int 1]) (I' := (tup I 61 0 1)) (J' := J) (by with_unfolding_all rfl) ?_
      subst hq
      exact pq_2i (x := 1) rfl ⟨_, rfl, rfl⟩
    · rw [h5, cond_false] at hq
      refine pq_s hB 3 (pc' := 137) (L' := [(0, .ref 60), (3, .int x3)]) (st' := [.int 2, .ref 8]) (I' := (tup I 61 0 1)) (J' := J) (by with_unfolding_all rfl) ?_
      generalize hc6 : f33_8 (tup I 61 0 1) J 2 = q6 at hq
      obtain ⟨v6, _, _⟩ := q6
      dsimp only at hq
      refine pq_1 rfl rfl rfl rfl (f33_8_pq hB hc6) ?_
      rintro _ I6 J6 ⟨rfl, rfl, rfl⟩
      refine pq_ifn hB rfl (fun h7 => ?_) (fun h7 => ?_)
      · rw [h7, cond_true] at hq
        refine pq_s hB 1 (pc' := 148) (L' := [(0, .ref 60), (3, .int x3)]) (st' := [.int 0]) (I' := I6) (J' := J6) (by with_unfolding_all rfl) ?_
        subst hq
        exact pq_2i (x := 0) rfl ⟨_, rfl, rfl⟩
      · rw [h7, cond_false] at hq
        refine pq_s hB 2 (pc' := 148) (L' := [(0, .ref 60), (3, .int x3)]) (st' := [.int 1]) (I' := I6) (J' := J6) (by with_unfolding_all rfl) ?_
        subst hq
        exact pq_2i (x := 1) rfl ⟨_, rfl, rfl⟩
-- LP$RunReader.reads
def f51_60_10 (N : Nat) (I : tI) (J : tJ) (a0 : Int32) : Option (Int32 × tI × tJ) :=
  (match f71_61 I J with | (_, I1, J1) => (match f24_8 N (tup I1 60 3 0) J1 a0 with | none => none | some (_, I2, J2) => (match f51_60_10_l25 N N I2 J2 1 0 with | none => none | some (y3_3, y3_4, I3, J3) => f51_60_10_j113 N I3 J3 y3_3)))
set_option maxRecDepth 100000 in
theorem f51_60_10_pq {sc : List Int32} {B : xM} {N : Nat} {I : tI} {J : tJ} {a0 : Int32} (hB : kB pT B) : ∀ {X : Option (Int32 × tI × tJ)}, f51_60_10 N I J a0 = X → pq sc B N (xt_51, 5, 3) 0 [(0, .ref 60), (1, .ref 10), (2, .int a0)] [] I J (fun v I1 J1 => ∃ a, v = some (.int a) ∧ X = some (a, I1, J1)) := by
  intro X hq
  unfold f51_60_10 at hq
  have hle : N ≤ N := Nat.le_refl N
  refine pq_s hB 2 (pc' := 4) (L' := [(0, .ref 60), (1, .ref 10), (2, .int a0)]) (st' := [.ref 61]) (I' := I) (J' := J) (by with_unfolding_all rfl) ?_
  generalize hc1 : f71_61 I J = q1 at hq
  obtain ⟨v1, _, _⟩ := q1
  dsimp only at hq
  refine pq_1 rfl rfl rfl rfl (f71_61_pq hB hc1) ?_
  rintro _ I1 J1 ⟨rfl, rfl, rfl⟩
  refine pq_s hB 6 (pc' := 17) (L' := [(0, .ref 60), (1, .ref 10), (2, .int a0)]) (st' := [.int a0, .ref 8]) (I' := (tup I1 60 3 0)) (J' := J1) (by with_unfolding_all rfl) ?_
  refine pq_1 rfl rfl rfl rfl (pq_le hle (f24_8_pq hB rfl)) ?_
  rintro _ I2 J2 ⟨rfl, hc2⟩
  rw [hc2] at hq
  dsimp only at hq
  refine pq_s hB 4 (pc' := 25) (L' := [(4, .int 0), (3, .int 1), (0, .ref 60), (1, .ref 10), (2, .int a0)]) (st' := []) (I' := I2) (J' := J2) (by with_unfolding_all rfl) ?_
  refine pq_perm (L := [(0, .ref 60), (1, .ref 10), (3, .int 1), (4, .int 0)]) (leqn_of ⟨rfl, rfl, rfl, rfl, trivial⟩ ⟨rfl, rfl, rfl, rfl, trivial⟩ ⟨rfl, rfl, rfl, rfl, rfl, trivial⟩) ?_
  refine f51_60_10_l25_pq hB N (Nat.le_refl N) N N hle (Nat.le_refl N) rfl ?_
  intro y3_3 y3_4 I3 J3 hc3
  rw [hc3] at hq
  dsimp only at hq
  refine pq_perm (L := [(0, .ref 60), (3, .int y3_3)]) (leqn_of ⟨rfl, rfl, trivial⟩ ⟨rfl, rfl, trivial⟩ ⟨rfl, rfl, rfl, rfl, trivial⟩) ?_
  exact f51_60_10_j113_pq hB hq
-- LP$Runs.takeOver
def f72_26_61 (I : tI) (J : tJ) : Unit × tI × tJ :=
  ((), (tcp (tcp (tcp (tcp (tup (tup (tup I 26 0 (I 61 0)) 26 1 (I 61 1)) 26 2 (I 61 2)) 27 0 62 0 60) 28 0 63 0 60) 29 0 64 0 60) 30 0 65 0 60), J)
set_option maxRecDepth 100000 in
theorem f72_26_61_pq {sc : List Int32} {B : xM} {n : Nat} {I : tI} {J : tJ} (hB : kB pT B) : ∀ {q : Unit × tI × tJ}, f72_26_61 I J = q → pq sc B n (xt_72, 2, 0) 0 [(0, .ref 26), (1, .ref 61)] [] I J (fun v I1 J1 => v = none ∧ I1 = q.2.1 ∧ J1 = q.2.2) := by
  intro q hq
  unfold f72_26_61 at hq
  refine pq_s hB 44 (pc' := 84) (L' := [(0, .ref 26), (1, .ref 61)]) (st' := []) (I' := (tcp (tcp (tcp (tcp (tup (tup (tup I 26 0 (I 61 0)) 26 1 (I 61 1)) 26 2 (I 61 2)) 27 0 62 0 60) 28 0 63 0 60) 29 0 64 0 60) 30 0 65 0 60)) (J' := J) (by with_unfolding_all rfl) ?_
  subst hq
  exact pq_2 (v := none) rfl rfl (by with_unfolding_all rfl) ⟨rfl, rfl, rfl⟩
-- LP.runs
def f144_0 (N : Nat) (I : tI) (J : tJ) (a0 : Int32) : Option (Int32 × tI × tJ) :=
  (match f127 I J a0 0 (if 300 < (I 0 4) then 300 else (I 0 4)) with | (v1, I1, J1) => bif xcmp .ne v1 0 then (match f51_60_10 N (tup I1 0 4 0) J1 a0 with | none => none | some (v3, I3, J3) => (match f145_0 I3 J3 with | (_, I4, J4) => bif xcmp .ne v3 0 then (match f72_26_61 I4 J4 with | (_, I6, J6) => (match f121_0 I6 J6 (I6 26 1) with | (v7, I7, J7) => some (v7, I7, J7))) else (match f122_0 I4 J4 9 with | (v8, I8, J8) => some (v8, I8, J8)))) else (match f122_0 I1 J1 1 with | (v9, I9, J9) => some (v9, I9, J9)))
set_option maxRecDepth 100000 in
theorem f144_0_pq {sc : List Int32} {B : xM} {N : Nat} {I : tI} {J : tJ} {a0 : Int32} (hB : kB pT B) : ∀ {X : Option (Int32 × tI × tJ)}, f144_0 N I J a0 = X → pq sc B N (xt_144, 3, 1) 0 [(0, .ref 0), (1, .int a0)] [] I J (fun v I1 J1 => ∃ a, v = some (.int a) ∧ X = some (a, I1, J1)) := by
  intro X hq
  unfold f144_0 at hq
  have hle : N ≤ N := Nat.le_refl N
  refine pq_s hB 6 (pc' := 12) (L' := [(0, .ref 0), (1, .int a0)]) (st' := [.int (if 300 < (I 0 4) then 300 else (I 0 4)), .int 0, .int a0]) (I' := I) (J' := J) (by with_unfolding_all rfl) ?_
  generalize hc1 : f127 I J a0 0 (if 300 < (I 0 4) then 300 else (I 0 4)) = q1 at hq
  obtain ⟨v1, _, _⟩ := q1
  dsimp only at hq
  refine pq_1 rfl rfl rfl rfl (f127_pq hB hc1) ?_
  rintro _ I1 J1 ⟨rfl, rfl, rfl⟩
  refine pq_ifn hB rfl (fun h2 => ?_) (fun h2 => ?_)
  · rw [h2, cond_true] at hq
    refine pq_s hB 8 (pc' := 38) (L' := [(0, .ref 0), (1, .int a0)]) (st' := [.int a0, .ref 10, .ref 60]) (I' := (tup I1 0 4 0)) (J' := J1) (by with_unfolding_all rfl) ?_
    refine pq_1 rfl rfl rfl rfl (pq_le hle (f51_60_10_pq hB rfl)) ?_
    rintro _ I3 J3 ⟨v3, rfl, hc3⟩
    rw [hc3] at hq
    dsimp only at hq
    refine pq_s hB 2 (pc' := 43) (L' := [(2, .int v3), (0, .ref 0), (1, .int a0)]) (st' := [.ref 0]) (I' := I3) (J' := J3) (by with_unfolding_all rfl) ?_
    generalize hc4 : f145_0 I3 J3 = q4 at hq
    obtain ⟨v4, _, _⟩ := q4
    dsimp only at hq
    refine pq_1 rfl rfl rfl rfl (f145_0_pq hB hc4) ?_
    rintro _ I4 J4 ⟨rfl, rfl, rfl⟩
    refine pq_s hB 1 (pc' := 47) (L' := [(2, .int v3), (0, .ref 0), (1, .int a0)]) (st' := [.int v3]) (I' := I4) (J' := J4) (by with_unfolding_all rfl) ?_
    refine pq_ifn hB rfl (fun h5 => ?_) (fun h5 => ?_)
    · rw [h5, cond_true] at hq
      refine pq_s hB 6 (pc' := 71) (L' := [(2, .int v3), (0, .ref 0), (1, .int a0)]) (st' := [.ref 61, .ref 26]) (I' := I4) (J' := J4) (by with_unfolding_all rfl) ?_
      generalize hc6 : f72_26_61 I4 J4 = q6 at hq
      obtain ⟨v6, _, _⟩ := q6
      dsimp only at hq
      refine pq_1 rfl rfl rfl rfl (f72_26_61_pq hB hc6) ?_
      rintro _ I6 J6 ⟨rfl, rfl, rfl⟩
      refine pq_s hB 5 (pc' := 85) (L' := [(2, .int v3), (0, .ref 0), (1, .int a0)]) (st' := [.int (I6 26 1), .ref 0]) (I' := I6) (J' := J6) (by with_unfolding_all rfl) ?_
      generalize hc7 : f121_0 I6 J6 (I6 26 1) = q7 at hq
      obtain ⟨v7, _, _⟩ := q7
      dsimp only at hq
      refine pq_1 rfl rfl rfl rfl (f121_0_pq hB hc7) ?_
      rintro _ I7 J7 ⟨rfl, rfl, rfl⟩
      subst hq
      exact pq_2i (x := v7) rfl ⟨_, rfl, rfl⟩
    · rw [h5, cond_false] at hq
      refine pq_s hB 2 (pc' := 53) (L' := [(2, .int v3), (0, .ref 0), (1, .int a0)]) (st' := [.int 9, .ref 0]) (I' := I4) (J' := J4) (by with_unfolding_all rfl) ?_
      generalize hc8 : f122_0 I4 J4 9 = q8 at hq
      obtain ⟨v8, _, _⟩ := q8
      dsimp only at hq
      refine pq_1 rfl rfl rfl rfl (f122_0_pq hB hc8) ?_
      rintro _ I8 J8 ⟨rfl, rfl, rfl⟩
      subst hq
      exact pq_2i (x := v8) rfl ⟨_, rfl, rfl⟩
  · rw [h2, cond_false] at hq
    refine pq_s hB 2 (pc' := 20) (L' := [(0, .ref 0), (1, .int a0)]) (st' := [.int 1, .ref 0]) (I' := I1) (J' := J1) (by with_unfolding_all rfl) ?_
    generalize hc9 : f122_0 I1 J1 1 = q9 at hq
    obtain ⟨v9, _, _⟩ := q9
    dsimp only at hq
    refine pq_1 rfl rfl rfl rfl (f122_0_pq hB hc9) ?_
    rintro _ I9 J9 ⟨rfl, rfl, rfl⟩
    subst hq
    exact pq_2i (x := v9) rfl ⟨_, rfl, rfl⟩
-- LPModel.runStep, the loop at 147, to [170]
def f249_185_l147 (N : Nat) : Nat → tI → tJ → Int32 → Int32 → Int32 → Int32 → Int32 → Option (Int32 × Int32 × Int32 × Int32 × Int32 × tI × tJ)
  | 0, _, _, _, _, _, _, _ => none
  | k + 1, I, J, x1, x2, x3, x4, x5 =>
    bif xcmp .ge x5 6 then some (x1, x2, x3, x4, x5, I, J) else f249_185_l147 N k (tup I 186 (((x3 + x5)).toNatClampNeg) 0) J x1 x2 x3 x4 (x5 + 1)
set_option maxRecDepth 100000 in
theorem f249_185_l147_pq {sc : List Int32} {B : xM} {N : Nat} {P : Option Value → tI → tJ → Prop} (hB : kB pT B) : ∀ (k : Nat), k ≤ N → ∀ (b m : Nat), b ≤ k → b ≤ m → ∀ {I : tI} {J : tJ} {x1 : Int32} {x2 : Int32} {x3 : Int32} {x4 : Int32} {x5 : Int32} {Y : Option (Int32 × Int32 × Int32 × Int32 × Int32 × tI × tJ)}, f249_185_l147 N k I J x1 x2 x3 x4 x5 = Y → (∀ {y1 : Int32} {y2 : Int32} {y3 : Int32} {y4 : Int32} {y5 : Int32} {I1 : tI} {J1 : tJ}, Y = some (y1, y2, y3, y4, y5, I1, J1) → pq sc B m (xt_249, 6, 3) 170 [(0, .ref 185), (1, .int y1), (2, .int y2), (3, .int y3), (4, .int y4), (5, .int y5)] [] I1 J1 P) → pq sc B b (xt_249, 6, 3) 147 [(0, .ref 185), (1, .int x1), (2, .int x2), (3, .int x3), (4, .int x4), (5, .int x5)] [] I J P
  | 0, _, b, _, hb, _, _, _, _, _, _, _, _, _, _, _ => by
    have e : b = 0 := by omega
    subst e
    exact pq_zero
  | _ + 1, _, 0, _, _, _, _, _, _, _, _, _, _, _, _, _ => pq_zero
  | k + 1, hk, b + 1, m, hb, hm, I, J, x1, x2, x3, x4, x5, Y, hq, hx0 => by
    unfold f249_185_l147 at hq
    have hle : b ≤ N := by omega
    refine pq_s1 hB 1 (pc' := 151) (L' := [(0, .ref 185), (1, .int x1), (2, .int x2), (3, .int x3), (4, .int x4), (5, .int x5)]) (st' := [.int 6, .int x5]) (I' := I) (J' := J) (by with_unfolding_all rfl) ?_
    refine pq_icn hB rfl (fun h11 => ?_) (fun h11 => ?_)
    · rw [h11, cond_true] at hq
      exact pq_le (by omega) (hx0 hq.symm)
    · rw [h11, cond_false] at hq
      refine pq_s hB 9 (pc' := 147) (L' := [(5, .int (x5 + 1)), (0, .ref 185), (1, .int x1), (2, .int x2), (3, .int x3), (4, .int x4)]) (st' := []) (I' := (tup I 186 (((x3 + x5)).toNatClampNeg) 0)) (J' := J) (by with_unfolding_all rfl) ?_
      refine pq_perm (L := [(0, .ref 185), (1, .int x1), (2, .int x2), (3, .int x3), (4, .int x4), (5, .int (x5 + 1))]) (leqn_of ⟨rfl, rfl, rfl, rfl, rfl, rfl, trivial⟩ ⟨rfl, rfl, rfl, rfl, rfl, rfl, trivial⟩ ⟨rfl, rfl, rfl, rfl, rfl, rfl, trivial⟩) ?_
      exact f249_185_l147_pq hB k (by omega) b m (by omega) (by omega) hq hx0
-- LPModel.oldOne
def f245_185 (N : Nat) (I : tI) (J : tJ) (a0 : Int32) (a1 : Int32) (a2 : Int32) : Option (Int32 × tI × tJ) :=
  (match f230_185_1002 N I J with | none => none | some (v1, I1, J1) => bif xcmp .ne v1 0 then (match f232_185 N I1 J1 a0 a1 with | none => none | some (v3, I3, J3) => bif xcmp .ne ((tup I3 186 ((a2).toNatClampNeg) v3) 186 ((a2).toNatClampNeg)) (-1) then (match f222_185 N (tup I3 186 ((a2).toNatClampNeg) v3) J3 with | none => none | some (_, I5, J5) => some (1, I5, J5)) else (match f225_185 (tup I3 186 ((a2).toNatClampNeg) v3) J3 3 with | (v6, I6, J6) => some (v6, I6, J6))) else (match f225_185 I1 J1 2 with | (v7, I7, J7) => some (v7, I7, J7)))
set_option maxRecDepth 100000 in
theorem f245_185_pq {sc : List Int32} {B : xM} {N : Nat} {I : tI} {J : tJ} {a0 : Int32} {a1 : Int32} {a2 : Int32} (hB : kB pT B) : ∀ {X : Option (Int32 × tI × tJ)}, f245_185 N I J a0 a1 a2 = X → pq sc B N (xt_245, 4, 3) 0 [(0, .ref 185), (1, .int a0), (2, .int a1), (3, .int a2)] [] I J (fun v I1 J1 => ∃ a, v = some (.int a) ∧ X = some (a, I1, J1)) := by
  intro X hq
  unfold f245_185 at hq
  have hle : N ≤ N := Nat.le_refl N
  refine pq_s hB 2 (pc' := 3) (L' := [(0, .ref 185), (1, .int a0), (2, .int a1), (3, .int a2)]) (st' := [.retAddr 2, .ref 185]) (I' := I) (J' := J) (by with_unfolding_all rfl) ?_
  refine pq_1 rfl rfl rfl rfl (pq_le hle (f230_185_1002_pq hB rfl)) ?_
  rintro _ I1 J1 ⟨v1, rfl, hc1⟩
  rw [hc1] at hq
  dsimp only at hq
  refine pq_ifn hB rfl (fun h2 => ?_) (fun h2 => ?_)
  · rw [h2, cond_true] at hq
    refine pq_s hB 6 (pc' := 23) (L' := [(0, .ref 185), (1, .int a0), (2, .int a1), (3, .int a2)]) (st' := [.int a1, .int a0, .ref 185, .int a2, .ref 186]) (I' := I1) (J' := J1) (by with_unfolding_all rfl) ?_
    refine pq_1 rfl rfl rfl rfl (pq_le hle (f232_185_pq hB rfl)) ?_
    rintro _ I3 J3 ⟨v3, rfl, hc3⟩
    rw [hc3] at hq
    dsimp only at hq
    refine pq_s hB 6 (pc' := 34) (L' := [(0, .ref 185), (1, .int a0), (2, .int a1), (3, .int a2)]) (st' := [.int (-1), .int ((tup I3 186 ((a2).toNatClampNeg) v3) 186 ((a2).toNatClampNeg))]) (I' := (tup I3 186 ((a2).toNatClampNeg) v3)) (J' := J3) (by with_unfolding_all rfl) ?_
    refine pq_icn hB rfl (fun h4 => ?_) (fun h4 => ?_)
    · rw [h4, cond_true] at hq
      refine pq_s hB 1 (pc' := 44) (L' := [(0, .ref 185), (1, .int a0), (2, .int a1), (3, .int a2)]) (st' := [.ref 185]) (I' := (tup I3 186 ((a2).toNatClampNeg) v3)) (J' := J3) (by with_unfolding_all rfl) ?_
      refine pq_1 rfl rfl rfl rfl (pq_le hle (f222_185_pq hB rfl)) ?_
      rintro _ I5 J5 ⟨rfl, hc5⟩
      rw [hc5] at hq
      dsimp only at hq
      refine pq_s hB 1 (pc' := 48) (L' := [(0, .ref 185), (1, .int a0), (2, .int a1), (3, .int a2)]) (st' := [.int 1]) (I' := I5) (J' := J5) (by with_unfolding_all rfl) ?_
      subst hq
      exact pq_2i (x := 1) rfl ⟨_, rfl, rfl⟩
    · rw [h4, cond_false] at hq
      refine pq_s hB 2 (pc' := 39) (L' := [(0, .ref 185), (1, .int a0), (2, .int a1), (3, .int a2)]) (st' := [.int 3, .ref 185]) (I' := (tup I3 186 ((a2).toNatClampNeg) v3)) (J' := J3) (by with_unfolding_all rfl) ?_
      generalize hc6 : f225_185 (tup I3 186 ((a2).toNatClampNeg) v3) J3 3 = q6 at hq
      obtain ⟨v6, _, _⟩ := q6
      dsimp only at hq
      refine pq_1 rfl rfl rfl rfl (f225_185_pq hB hc6) ?_
      rintro _ I6 J6 ⟨rfl, rfl, rfl⟩
      subst hq
      exact pq_2i (x := v6) rfl ⟨_, rfl, rfl⟩
  · rw [h2, cond_false] at hq
    refine pq_s hB 2 (pc' := 11) (L' := [(0, .ref 185), (1, .int a0), (2, .int a1), (3, .int a2)]) (st' := [.int 2, .ref 185]) (I' := I1) (J' := J1) (by with_unfolding_all rfl) ?_
    generalize hc7 : f225_185 I1 J1 2 = q7 at hq
    obtain ⟨v7, _, _⟩ := q7
    dsimp only at hq
    refine pq_1 rfl rfl rfl rfl (f225_185_pq hB hc7) ?_
    rintro _ I7 J7 ⟨rfl, rfl, rfl⟩
    subst hq
    exact pq_2i (x := v7) rfl ⟨_, rfl, rfl⟩
-- LPModel.buyerTo
def f246_185 (N : Nat) (I : tI) (J : tJ) (a0 : Int32) : Option (Int32 × tI × tJ) :=
  (match f245_185 N I J 11 (I 186 4) a0 with | none => none | some (v1, I1, J1) => some (v1, I1, J1))
set_option maxRecDepth 100000 in
theorem f246_185_pq {sc : List Int32} {B : xM} {N : Nat} {I : tI} {J : tJ} {a0 : Int32} (hB : kB pT B) : ∀ {X : Option (Int32 × tI × tJ)}, f246_185 N I J a0 = X → pq sc B N (xt_246, 2, 3) 0 [(0, .ref 185), (1, .int a0)] [] I J (fun v I1 J1 => ∃ a, v = some (.int a) ∧ X = some (a, I1, J1)) := by
  intro X hq
  unfold f246_185 at hq
  have hle : N ≤ N := Nat.le_refl N
  refine pq_s hB 7 (pc' := 10) (L' := [(0, .ref 185), (1, .int a0)]) (st' := [.int a0, .int (I 186 4), .int 11, .ref 185]) (I' := I) (J' := J) (by with_unfolding_all rfl) ?_
  refine pq_1 rfl rfl rfl rfl (pq_le hle (f245_185_pq hB rfl)) ?_
  rintro _ I1 J1 ⟨v1, rfl, hc1⟩
  rw [hc1] at hq
  dsimp only at hq
  subst hq
  exact pq_2i (x := v1) rfl ⟨_, rfl, rfl⟩
-- LPModel.test, from 133 on
def f247_185_j133 (N : Nat) (I : tI) (J : tJ) (x1 : Int32) : Option (Int32 × tI × tJ) :=
  (match f222_185 N (tup I 186 (((x1 + 5)).toNatClampNeg) (I 185 15)) J with | none => none | some (_, I10, J10) => (match f229_185 N I10 J10 (x1 + 2) 0 9999 with | none => none | some (v11, I11, J11) => some (v11, I11, J11)))
set_option maxRecDepth 100000 in
theorem f247_185_j133_pq {sc : List Int32} {B : xM} {N : Nat} {I : tI} {J : tJ} {x1 : Int32} (hB : kB pT B) : ∀ {X : Option (Int32 × tI × tJ)}, f247_185_j133 N I J x1 = X → pq sc B N (xt_247, 3, 3) 133 [(0, .ref 185), (1, .int x1)] [] I J (fun v I1 J1 => ∃ a, v = some (.int a) ∧ X = some (a, I1, J1)) := by
  intro X hq
  unfold f247_185_j133 at hq
  have hle : N ≤ N := Nat.le_refl N
  refine pq_s hB 9 (pc' := 146) (L' := [(0, .ref 185), (1, .int x1)]) (st' := [.ref 185]) (I' := (tup I 186 (((x1 + 5)).toNatClampNeg) (I 185 15))) (J' := J) (by with_unfolding_all rfl) ?_
  refine pq_1 rfl rfl rfl rfl (pq_le hle (f222_185_pq hB rfl)) ?_
  rintro _ I10 J10 ⟨rfl, hc10⟩
  rw [hc10] at hq
  dsimp only at hq
  refine pq_s hB 6 (pc' := 157) (L' := [(0, .ref 185), (1, .int x1)]) (st' := [.int 9999, .int 0, .int (x1 + 2), .ref 185]) (I' := I10) (J' := J10) (by with_unfolding_all rfl) ?_
  refine pq_1 rfl rfl rfl rfl (pq_le hle (f229_185_pq hB rfl)) ?_
  rintro _ I11 J11 ⟨v11, rfl, hc11⟩
  rw [hc11] at hq
  dsimp only at hq
  subst hq
  exact pq_2i (x := v11) rfl ⟨_, rfl, rfl⟩
-- LPModel.test, from 31 on
def f247_185_j31 (N : Nat) (I : tI) (J : tJ) (x1 : Int32) (x2 : Int32) : Option (Int32 × tI × tJ) :=
  (match f222_185 N (tup I 186 ((x1).toNatClampNeg) (2500 + x2)) J with | none => none | some (_, I3, J3) => bif xcmp .ne x2 29 then (bif xcmp .ne x2 30 then (match f246_185 N I3 J3 (x1 + 1) with | none => none | some (v6, I6, J6) => bif xcmp .ne v6 0 then (match f223_185 I6 J6 60 with | (v8, I8, J8) => bif xcmp .ne v8 0 then f247_185_j133 N I8 J8 x1 else (match f223_185 I8 J8 62 with | (v10, I10, J10) => bif xcmp .ne v10 0 then f247_185_j133 N I10 J10 x1 else (match f223_185 I10 J10 61 with | (v12, I12, J12) => bif xcmp .ne v12 0 then f247_185_j133 N I12 J12 x1 else (match f225_185 I12 J12 2 with | (v14, I14, J14) => some (v14, I14, J14))))) else some (0, I6, J6)) else (match f245_185 N I3 J3 0 (I3 186 2) (x1 + 1) with | none => none | some (v15, I15, J15) => some (v15, I15, J15))) else (match f245_185 N I3 J3 5 (I3 186 3) (x1 + 1) with | none => none | some (v16, I16, J16) => some (v16, I16, J16)))
set_option maxRecDepth 100000 in
theorem f247_185_j31_pq {sc : List Int32} {B : xM} {N : Nat} {I : tI} {J : tJ} {x1 : Int32} {x2 : Int32} (hB : kB pT B) : ∀ {X : Option (Int32 × tI × tJ)}, f247_185_j31 N I J x1 x2 = X → pq sc B N (xt_247, 3, 3) 31 [(0, .ref 185), (1, .int x1), (2, .int x2)] [] I J (fun v I1 J1 => ∃ a, v = some (.int a) ∧ X = some (a, I1, J1)) := by
  intro X hq
  unfold f247_185_j31 at hq
  have hle : N ≤ N := Nat.le_refl N
  refine pq_s hB 8 (pc' := 43) (L' := [(0, .ref 185), (1, .int x1), (2, .int x2)]) (st' := [.ref 185]) (I' := (tup I 186 ((x1).toNatClampNeg) (2500 + x2))) (J' := J) (by with_unfolding_all rfl) ?_
  refine pq_1 rfl rfl rfl rfl (pq_le hle (f222_185_pq hB rfl)) ?_
  rintro _ I3 J3 ⟨rfl, hc3⟩
  rw [hc3] at hq
  dsimp only at hq
  refine pq_s hB 2 (pc' := 49) (L' := [(0, .ref 185), (1, .int x1), (2, .int x2)]) (st' := [.int 29, .int x2]) (I' := I3) (J' := J3) (by with_unfolding_all rfl) ?_
  refine pq_icn hB rfl (fun h4 => ?_) (fun h4 => ?_)
  · rw [h4, cond_true] at hq
    refine pq_s hB 2 (pc' := 70) (L' := [(0, .ref 185), (1, .int x1), (2, .int x2)]) (st' := [.int 30, .int x2]) (I' := I3) (J' := J3) (by with_unfolding_all rfl) ?_
    refine pq_icn hB rfl (fun h5 => ?_) (fun h5 => ?_)
    · rw [h5, cond_true] at hq
      refine pq_s hB 4 (pc' := 92) (L' := [(0, .ref 185), (1, .int x1), (2, .int x2)]) (st' := [.int (x1 + 1), .ref 185]) (I' := I3) (J' := J3) (by with_unfolding_all rfl) ?_
      refine pq_1 rfl rfl rfl rfl (pq_le hle (f246_185_pq hB rfl)) ?_
      rintro _ I6 J6 ⟨v6, rfl, hc6⟩
      rw [hc6] at hq
      dsimp only at hq
      refine pq_ifn hB rfl (fun h7 => ?_) (fun h7 => ?_)
      · rw [h7, cond_true] at hq
        refine pq_s hB 2 (pc' := 103) (L' := [(0, .ref 185), (1, .int x1), (2, .int x2)]) (st' := [.int 60, .ref 185]) (I' := I6) (J' := J6) (by with_unfolding_all rfl) ?_
        generalize hc8 : f223_185 I6 J6 60 = q8 at hq
        obtain ⟨v8, _, _⟩ := q8
        dsimp only at hq
        refine pq_1 rfl rfl rfl rfl (f223_185_pq hB hc8) ?_
        rintro _ I8 J8 ⟨rfl, rfl, rfl⟩
        refine pq_ifn hB rfl (fun h9 => ?_) (fun h9 => ?_)
        · rw [h9, cond_true] at hq
          refine pq_perm (L := [(0, .ref 185), (1, .int x1)]) (leqn_of ⟨rfl, rfl, trivial⟩ ⟨rfl, rfl, trivial⟩ ⟨rfl, rfl, rfl, trivial⟩) ?_
          exact f247_185_j133_pq hB hq
        · rw [h9, cond_false] at hq
          refine pq_s hB 2 (pc' := 112) (L' := [(0, .ref 185), (1, .int x1), (2, .int x2)]) (st' := [.int 62, .ref 185]) (I' := I8) (J' := J8) (by with_unfolding_all rfl) ?_
          generalize hc10 : f223_185 I8 J8 62 = q10 at hq
          obtain ⟨v10, _, _⟩ := q10
          dsimp only at hq
          refine pq_1 rfl rfl rfl rfl (f223_185_pq hB hc10) ?_
          rintro _ I10 J10 ⟨rfl, rfl, rfl⟩
          refine pq_ifn hB rfl (fun h11 => ?_) (fun h11 => ?_)
          · rw [h11, cond_true] at hq
            refine pq_perm (L := [(0, .ref 185), (1, .int x1)]) (leqn_of ⟨rfl, rfl, trivial⟩ ⟨rfl, rfl, trivial⟩ ⟨rfl, rfl, rfl, trivial⟩) ?_
            exact f247_185_j133_pq hB hq
          · rw [h11, cond_false] at hq
            refine pq_s hB 2 (pc' := 121) (L' := [(0, .ref 185), (1, .int x1), (2, .int x2)]) (st' := [.int 61, .ref 185]) (I' := I10) (J' := J10) (by with_unfolding_all rfl) ?_
            generalize hc12 : f223_185 I10 J10 61 = q12 at hq
            obtain ⟨v12, _, _⟩ := q12
            dsimp only at hq
            refine pq_1 rfl rfl rfl rfl (f223_185_pq hB hc12) ?_
            rintro _ I12 J12 ⟨rfl, rfl, rfl⟩
            refine pq_ifn hB rfl (fun h13 => ?_) (fun h13 => ?_)
            · rw [h13, cond_true] at hq
              refine pq_perm (L := [(0, .ref 185), (1, .int x1)]) (leqn_of ⟨rfl, rfl, trivial⟩ ⟨rfl, rfl, trivial⟩ ⟨rfl, rfl, rfl, trivial⟩) ?_
              exact f247_185_j133_pq hB hq
            · rw [h13, cond_false] at hq
              refine pq_s hB 2 (pc' := 129) (L' := [(0, .ref 185), (1, .int x1), (2, .int x2)]) (st' := [.int 2, .ref 185]) (I' := I12) (J' := J12) (by with_unfolding_all rfl) ?_
              generalize hc14 : f225_185 I12 J12 2 = q14 at hq
              obtain ⟨v14, _, _⟩ := q14
              dsimp only at hq
              refine pq_1 rfl rfl rfl rfl (f225_185_pq hB hc14) ?_
              rintro _ I14 J14 ⟨rfl, rfl, rfl⟩
              subst hq
              exact pq_2i (x := v14) rfl ⟨_, rfl, rfl⟩
      · rw [h7, cond_false] at hq
        refine pq_s hB 1 (pc' := 99) (L' := [(0, .ref 185), (1, .int x1), (2, .int x2)]) (st' := [.int 0]) (I' := I6) (J' := J6) (by with_unfolding_all rfl) ?_
        subst hq
        exact pq_2i (x := 0) rfl ⟨_, rfl, rfl⟩
    · rw [h5, cond_false] at hq
      refine pq_s hB 9 (pc' := 84) (L' := [(0, .ref 185), (1, .int x1), (2, .int x2)]) (st' := [.int (x1 + 1), .int (I3 186 2), .int 0, .ref 185]) (I' := I3) (J' := J3) (by with_unfolding_all rfl) ?_
      refine pq_1 rfl rfl rfl rfl (pq_le hle (f245_185_pq hB rfl)) ?_
      rintro _ I15 J15 ⟨v15, rfl, hc15⟩
      rw [hc15] at hq
      dsimp only at hq
      subst hq
      exact pq_2i (x := v15) rfl ⟨_, rfl, rfl⟩
  · rw [h4, cond_false] at hq
    refine pq_s hB 9 (pc' := 63) (L' := [(0, .ref 185), (1, .int x1), (2, .int x2)]) (st' := [.int (x1 + 1), .int (I3 186 3), .int 5, .ref 185]) (I' := I3) (J' := J3) (by with_unfolding_all rfl) ?_
    refine pq_1 rfl rfl rfl rfl (pq_le hle (f245_185_pq hB rfl)) ?_
    rintro _ I16 J16 ⟨v16, rfl, hc16⟩
    rw [hc16] at hq
    dsimp only at hq
    subst hq
    exact pq_2i (x := v16) rfl ⟨_, rfl, rfl⟩
-- LPModel.test
def f247_185 (N : Nat) (I : tI) (J : tJ) (a0 : Int32) : Option (Int32 × tI × tJ) :=
  (match f224_185_1002 N I J with | none => none | some (v1, I1, J1) => bif xcmp .eq v1 29 then f247_185_j31 N I1 J1 a0 v1 else bif xcmp .eq v1 30 then f247_185_j31 N I1 J1 a0 v1 else bif xcmp .eq v1 20 then f247_185_j31 N I1 J1 a0 v1 else (match f225_185 I1 J1 2 with | (v5, I5, J5) => some (v5, I5, J5)))
set_option maxRecDepth 100000 in
theorem f247_185_pq {sc : List Int32} {B : xM} {N : Nat} {I : tI} {J : tJ} {a0 : Int32} (hB : kB pT B) : ∀ {X : Option (Int32 × tI × tJ)}, f247_185 N I J a0 = X → pq sc B N (xt_247, 3, 3) 0 [(0, .ref 185), (1, .int a0)] [] I J (fun v I1 J1 => ∃ a, v = some (.int a) ∧ X = some (a, I1, J1)) := by
  intro X hq
  unfold f247_185 at hq
  have hle : N ≤ N := Nat.le_refl N
  refine pq_s hB 2 (pc' := 3) (L' := [(0, .ref 185), (1, .int a0)]) (st' := [.retAddr 2, .ref 185]) (I' := I) (J' := J) (by with_unfolding_all rfl) ?_
  refine pq_1 rfl rfl rfl rfl (pq_le hle (f224_185_1002_pq hB rfl)) ?_
  rintro _ I1 J1 ⟨v1, rfl, hc1⟩
  rw [hc1] at hq
  dsimp only at hq
  refine pq_s hB 3 (pc' := 10) (L' := [(2, .int v1), (0, .ref 185), (1, .int a0)]) (st' := [.int 29, .int v1]) (I' := I1) (J' := J1) (by with_unfolding_all rfl) ?_
  refine pq_icn hB rfl (fun h2 => ?_) (fun h2 => ?_)
  · rw [h2, cond_true] at hq
    refine pq_perm (L := [(0, .ref 185), (1, .int a0), (2, .int v1)]) (leqn_of ⟨rfl, rfl, rfl, trivial⟩ ⟨rfl, rfl, rfl, trivial⟩ ⟨rfl, rfl, rfl, trivial⟩) ?_
    exact f247_185_j31_pq hB hq
  · rw [h2, cond_false] at hq
    refine pq_s hB 2 (pc' := 16) (L' := [(2, .int v1), (0, .ref 185), (1, .int a0)]) (st' := [.int 30, .int v1]) (I' := I1) (J' := J1) (by with_unfolding_all rfl) ?_
    refine pq_icn hB rfl (fun h3 => ?_) (fun h3 => ?_)
    · rw [h3, cond_true] at hq
      refine pq_perm (L := [(0, .ref 185), (1, .int a0), (2, .int v1)]) (leqn_of ⟨rfl, rfl, rfl, trivial⟩ ⟨rfl, rfl, rfl, trivial⟩ ⟨rfl, rfl, rfl, trivial⟩) ?_
      exact f247_185_j31_pq hB hq
    · rw [h3, cond_false] at hq
      refine pq_s hB 2 (pc' := 22) (L' := [(2, .int v1), (0, .ref 185), (1, .int a0)]) (st' := [.int 20, .int v1]) (I' := I1) (J' := J1) (by with_unfolding_all rfl) ?_
      refine pq_icn hB rfl (fun h4 => ?_) (fun h4 => ?_)
      · rw [h4, cond_true] at hq
        refine pq_perm (L := [(0, .ref 185), (1, .int a0), (2, .int v1)]) (leqn_of ⟨rfl, rfl, rfl, trivial⟩ ⟨rfl, rfl, rfl, trivial⟩ ⟨rfl, rfl, rfl, trivial⟩) ?_
        exact f247_185_j31_pq hB hq
      · rw [h4, cond_false] at hq
        refine pq_s hB 2 (pc' := 27) (L' := [(2, .int v1), (0, .ref 185), (1, .int a0)]) (st' := [.int 2, .ref 185]) (I' := I1) (J' := J1) (by with_unfolding_all rfl) ?_
        generalize hc5 : f225_185 I1 J1 2 = q5 at hq
        obtain ⟨v5, _, _⟩ := q5
        dsimp only at hq
        refine pq_1 rfl rfl rfl rfl (f225_185_pq hB hc5) ?_
        rintro _ I5 J5 ⟨rfl, rfl, rfl⟩
        subst hq
        exact pq_2i (x := v5) rfl ⟨_, rfl, rfl⟩
-- LPModel.runOrder
def f248_185 (N : Nat) (I : tI) (J : tJ) (a0 : Int32) (a1 : Int32) : Option (Int32 × tI × tJ) :=
  bif xcmp .eq a0 21 then ((match f246_185 N I J (a1 + 1) with | none => none | some (v2, I2, J2) => bif xcmp .eq v2 0 then some (0, I2, J2) else (match f229_185 N I2 J2 (a1 + 2) 1 20 with | none => none | some (v4, I4, J4) => bif xcmp .eq v4 0 then some (0, I4, J4) else some (1, I4, J4)))) else bif xcmp .eq a0 22 then ((match f229_185 N I J (a1 + 1) 1 20 with | none => none | some (v7, I7, J7) => some (v7, I7, J7))) else bif xcmp .eq a0 23 then ((match f246_185 N I J (a1 + 1) with | none => none | some (v9, I9, J9) => bif xcmp .eq v9 0 then some (0, I9, J9) else (match f246_185 N I9 J9 (a1 + 2) with | none => none | some (v11, I11, J11) => bif xcmp .eq v11 0 then some (0, I11, J11) else some (1, I11, J11)))) else bif xcmp .eq a0 25 then ((match f247_185 N I J a1 with | none => none | some (v14, I14, J14) => some (v14, I14, J14))) else bif xcmp .eq a0 26 then ((match f229_185 N I J (a1 + 1) 1 99 with | none => none | some (v16, I16, J16) => some (v16, I16, J16))) else some (1, I, J)
set_option maxRecDepth 100000 in
theorem f248_185_pq {sc : List Int32} {B : xM} {N : Nat} {I : tI} {J : tJ} {a0 : Int32} {a1 : Int32} (hB : kB pT B) : ∀ {X : Option (Int32 × tI × tJ)}, f248_185 N I J a0 a1 = X → pq sc B N (xt_248, 3, 3) 0 [(0, .ref 185), (1, .int a0), (2, .int a1)] [] I J (fun v I1 J1 => ∃ a, v = some (.int a) ∧ X = some (a, I1, J1)) := by
  intro X hq
  unfold f248_185 at hq
  have hle : N ≤ N := Nat.le_refl N
  refine pq_s hB 1 (pc' := 1) (L' := [(0, .ref 185), (1, .int a0), (2, .int a1)]) (st' := [.int a0]) (I' := I) (J' := J) (by with_unfolding_all rfl) ?_
  cases h1 : xcmp .eq a0 21 with
  | true =>
    rw [h1, cond_true] at hq
    refine pq_tsw_k hB (c := 21) (t := 40) rfl h1 rfl ?_
    refine pq_s hB 4 (pc' := 44) (L' := [(0, .ref 185), (1, .int a0), (2, .int a1)]) (st' := [.int (a1 + 1), .ref 185]) (I' := I) (J' := J) (by with_unfolding_all rfl) ?_
    refine pq_1 rfl rfl rfl rfl (pq_le hle (f246_185_pq hB rfl)) ?_
    rintro _ I2 J2 ⟨v2, rfl, hc2⟩
    rw [hc2] at hq
    dsimp only at hq
    refine pq_ifn hB rfl (fun h3 => ?_) (fun h3 => ?_)
    · rw [h3, cond_true] at hq
      refine pq_s hB 1 (pc' := 68) (L' := [(0, .ref 185), (1, .int a0), (2, .int a1)]) (st' := [.int 0]) (I' := I2) (J' := J2) (by with_unfolding_all rfl) ?_
      subst hq
      exact pq_2i (x := 0) rfl ⟨_, rfl, rfl⟩
    · rw [h3, cond_false] at hq
      refine pq_s hB 6 (pc' := 57) (L' := [(0, .ref 185), (1, .int a0), (2, .int a1)]) (st' := [.int 20, .int 1, .int (a1 + 2), .ref 185]) (I' := I2) (J' := J2) (by with_unfolding_all rfl) ?_
      refine pq_1 rfl rfl rfl rfl (pq_le hle (f229_185_pq hB rfl)) ?_
      rintro _ I4 J4 ⟨v4, rfl, hc4⟩
      rw [hc4] at hq
      dsimp only at hq
      refine pq_ifn hB rfl (fun h5 => ?_) (fun h5 => ?_)
      · rw [h5, cond_true] at hq
        refine pq_s hB 1 (pc' := 68) (L' := [(0, .ref 185), (1, .int a0), (2, .int a1)]) (st' := [.int 0]) (I' := I4) (J' := J4) (by with_unfolding_all rfl) ?_
        subst hq
        exact pq_2i (x := 0) rfl ⟨_, rfl, rfl⟩
      · rw [h5, cond_false] at hq
        refine pq_s hB 2 (pc' := 68) (L' := [(0, .ref 185), (1, .int a0), (2, .int a1)]) (st' := [.int 1]) (I' := I4) (J' := J4) (by with_unfolding_all rfl) ?_
        subst hq
        exact pq_2i (x := 1) rfl ⟨_, rfl, rfl⟩
  | false =>
    rw [h1, cond_false] at hq
    cases h6 : xcmp .eq a0 22 with
    | true =>
      rw [h6, cond_true] at hq
      refine pq_tsw_k hB (c := 22) (t := 69) rfl h6 rfl ?_
      refine pq_s hB 6 (pc' := 76) (L' := [(0, .ref 185), (1, .int a0), (2, .int a1)]) (st' := [.int 20, .int 1, .int (a1 + 1), .ref 185]) (I' := I) (J' := J) (by with_unfolding_all rfl) ?_
      refine pq_1 rfl rfl rfl rfl (pq_le hle (f229_185_pq hB rfl)) ?_
      rintro _ I7 J7 ⟨v7, rfl, hc7⟩
      rw [hc7] at hq
      dsimp only at hq
      subst hq
      exact pq_2i (x := v7) rfl ⟨_, rfl, rfl⟩
    | false =>
      rw [h6, cond_false] at hq
      cases h8 : xcmp .eq a0 23 with
      | true =>
        rw [h8, cond_true] at hq
        refine pq_tsw_k hB (c := 23) (t := 80) rfl h8 rfl ?_
        refine pq_s hB 4 (pc' := 84) (L' := [(0, .ref 185), (1, .int a0), (2, .int a1)]) (st' := [.int (a1 + 1), .ref 185]) (I' := I) (J' := J) (by with_unfolding_all rfl) ?_
        refine pq_1 rfl rfl rfl rfl (pq_le hle (f246_185_pq hB rfl)) ?_
        rintro _ I9 J9 ⟨v9, rfl, hc9⟩
        rw [hc9] at hq
        dsimp only at hq
        refine pq_ifn hB rfl (fun h10 => ?_) (fun h10 => ?_)
        · rw [h10, cond_true] at hq
          refine pq_s hB 1 (pc' := 105) (L' := [(0, .ref 185), (1, .int a0), (2, .int a1)]) (st' := [.int 0]) (I' := I9) (J' := J9) (by with_unfolding_all rfl) ?_
          subst hq
          exact pq_2i (x := 0) rfl ⟨_, rfl, rfl⟩
        · rw [h10, cond_false] at hq
          refine pq_s hB 4 (pc' := 94) (L' := [(0, .ref 185), (1, .int a0), (2, .int a1)]) (st' := [.int (a1 + 2), .ref 185]) (I' := I9) (J' := J9) (by with_unfolding_all rfl) ?_
          refine pq_1 rfl rfl rfl rfl (pq_le hle (f246_185_pq hB rfl)) ?_
          rintro _ I11 J11 ⟨v11, rfl, hc11⟩
          rw [hc11] at hq
          dsimp only at hq
          refine pq_ifn hB rfl (fun h12 => ?_) (fun h12 => ?_)
          · rw [h12, cond_true] at hq
            refine pq_s hB 1 (pc' := 105) (L' := [(0, .ref 185), (1, .int a0), (2, .int a1)]) (st' := [.int 0]) (I' := I11) (J' := J11) (by with_unfolding_all rfl) ?_
            subst hq
            exact pq_2i (x := 0) rfl ⟨_, rfl, rfl⟩
          · rw [h12, cond_false] at hq
            refine pq_s hB 2 (pc' := 105) (L' := [(0, .ref 185), (1, .int a0), (2, .int a1)]) (st' := [.int 1]) (I' := I11) (J' := J11) (by with_unfolding_all rfl) ?_
            subst hq
            exact pq_2i (x := 1) rfl ⟨_, rfl, rfl⟩
      | false =>
        rw [h8, cond_false] at hq
        cases h13 : xcmp .eq a0 25 with
        | true =>
          rw [h13, cond_true] at hq
          refine pq_tsw_k hB (c := 25) (t := 117) rfl h13 rfl ?_
          refine pq_s hB 2 (pc' := 119) (L' := [(0, .ref 185), (1, .int a0), (2, .int a1)]) (st' := [.int a1, .ref 185]) (I' := I) (J' := J) (by with_unfolding_all rfl) ?_
          refine pq_1 rfl rfl rfl rfl (pq_le hle (f247_185_pq hB rfl)) ?_
          rintro _ I14 J14 ⟨v14, rfl, hc14⟩
          rw [hc14] at hq
          dsimp only at hq
          subst hq
          exact pq_2i (x := v14) rfl ⟨_, rfl, rfl⟩
        | false =>
          rw [h13, cond_false] at hq
          cases h15 : xcmp .eq a0 26 with
          | true =>
            rw [h15, cond_true] at hq
            refine pq_tsw_k hB (c := 26) (t := 106) rfl h15 rfl ?_
            refine pq_s hB 6 (pc' := 113) (L' := [(0, .ref 185), (1, .int a0), (2, .int a1)]) (st' := [.int 99, .int 1, .int (a1 + 1), .ref 185]) (I' := I) (J' := J) (by with_unfolding_all rfl) ?_
            refine pq_1 rfl rfl rfl rfl (pq_le hle (f229_185_pq hB rfl)) ?_
            rintro _ I16 J16 ⟨v16, rfl, hc16⟩
            rw [hc16] at hq
            dsimp only at hq
            subst hq
            exact pq_2i (x := v16) rfl ⟨_, rfl, rfl⟩
          | false =>
            rw [h15, cond_false] at hq
            refine pq_tsw_d hB (cs := [21, 22, 23, 25, 26]) rfl rfl rfl (List.forall_mem_cons.mpr ⟨h1, List.forall_mem_cons.mpr ⟨h6, List.forall_mem_cons.mpr ⟨h8, List.forall_mem_cons.mpr ⟨h13, List.forall_mem_cons.mpr ⟨h15, fun c hc => by cases hc⟩⟩⟩⟩⟩) ?_
            show pq sc B _ _ 123 _ _ _ _ _
            refine pq_s hB 1 (pc' := 124) (L' := [(0, .ref 185), (1, .int a0), (2, .int a1)]) (st' := [.int 1]) (I' := I) (J' := J) (by with_unfolding_all rfl) ?_
            subst hq
            exact pq_2i (x := 1) rfl ⟨_, rfl, rfl⟩
-- LPModel.runStep, from 222 on
def f249_185_j222 (N : Nat) (I : tI) (J : tJ) (x1 : Int32) (x2 : Int32) (x3 : Int32) : Option (Int32 × tI × tJ) :=
  bif xcmp .ne x1 27 then (match f227_185 N I J 59 with | none => none | some (v17, I17, J17) => some (v17, I17, J17)) else (match f227_185 N (tup (tup (tup I 185 22 ((I 185 22) - 1)) 186 (((x3 + 4)).toNatClampNeg) (I 193 ((((I 185 22) - 1))).toNatClampNeg)) 186 ((((2732 + (6 * (I 193 ((((I 185 22) - 1))).toNatClampNeg))) + 4)).toNatClampNeg) x2) J 59 with | none => none | some (v18, I18, J18) => some (v18, I18, J18))
set_option maxRecDepth 100000 in
theorem f249_185_j222_pq {sc : List Int32} {B : xM} {N : Nat} {I : tI} {J : tJ} {x1 : Int32} {x2 : Int32} {x3 : Int32} (hB : kB pT B) : ∀ {X : Option (Int32 × tI × tJ)}, f249_185_j222 N I J x1 x2 x3 = X → pq sc B N (xt_249, 6, 3) 222 [(0, .ref 185), (1, .int x1), (2, .int x2), (3, .int x3)] [] I J (fun v I1 J1 => ∃ a, v = some (.int a) ∧ X = some (a, I1, J1)) := by
  intro X hq
  unfold f249_185_j222 at hq
  have hle : N ≤ N := Nat.le_refl N
  refine pq_s hB 2 (pc' := 225) (L' := [(0, .ref 185), (1, .int x1), (2, .int x2), (3, .int x3)]) (st' := [.int 27, .int x1]) (I' := I) (J' := J) (by with_unfolding_all rfl) ?_
  refine pq_icn hB rfl (fun h16 => ?_) (fun h16 => ?_)
  · rw [h16, cond_true] at hq
    refine pq_s hB 2 (pc' := 282) (L' := [(0, .ref 185), (1, .int x1), (2, .int x2), (3, .int x3)]) (st' := [.int 59, .ref 185]) (I' := I) (J' := J) (by with_unfolding_all rfl) ?_
    refine pq_1 rfl rfl rfl rfl (pq_le hle (f227_185_pq hB rfl)) ?_
    rintro _ I17 J17 ⟨v17, rfl, hc17⟩
    rw [hc17] at hq
    dsimp only at hq
    subst hq
    exact pq_2i (x := v17) rfl ⟨_, rfl, rfl⟩
  · rw [h16, cond_false] at hq
    refine pq_s hB 34 (pc' := 282) (L' := [(0, .ref 185), (1, .int x1), (2, .int x2), (3, .int x3)]) (st' := [.int 59, .ref 185]) (I' := (tup (tup (tup I 185 22 ((I 185 22) - 1)) 186 (((x3 + 4)).toNatClampNeg) (I 193 ((((I 185 22) - 1))).toNatClampNeg)) 186 ((((2732 + (6 * (I 193 ((((I 185 22) - 1))).toNatClampNeg))) + 4)).toNatClampNeg) x2)) (J' := J) (by with_unfolding_all rfl) ?_
    refine pq_1 rfl rfl rfl rfl (pq_le hle (f227_185_pq hB rfl)) ?_
    rintro _ I18 J18 ⟨v18, rfl, hc18⟩
    rw [hc18] at hq
    dsimp only at hq
    subst hq
    exact pq_2i (x := v18) rfl ⟨_, rfl, rfl⟩
-- LPModel.runStep, from 117 on
def f249_185_j117 (N : Nat) (I : tI) (J : tJ) (x1 : Int32) (x2 : Int32) (x3 : Int32) (x4 : Int32) : Option (Int32 × tI × tJ) :=
  bif xcmp .ne x1 27 then (match f249_185_l147 N N (tup (tup I 185 23 ((I 185 23) + 1)) 186 ((x3).toNatClampNeg) x1) J x1 x2 x3 x4 1 with | none => none | some (y11_1, y11_2, y11_3, y11_4, y11_5, I11, J11) => (match f222_185 N (tup I11 186 2488 ((I11 186 2488) + 1)) J11 with | none => none | some (_, I12, J12) => (match f248_185 N I12 J12 y11_1 y11_3 with | none => none | some (v13, I13, J13) => bif xcmp .ne v13 0 then (bif xcmp .eq y11_4 0 then f249_185_j222 N I13 J13 y11_1 y11_2 y11_3 else f249_185_j222 N (tup (tup I13 193 (((I13 185 22)).toNatClampNeg) y11_2) 185 22 ((I13 185 22) + 1)) J13 y11_1 y11_2 y11_3) else some (0, I13, J13)))) else (match f249_185_l147 N N (tup (tup I 185 23 ((I 185 23) + 0)) 186 ((x3).toNatClampNeg) x1) J x1 x2 x3 x4 1 with | none => none | some (y16_1, y16_2, y16_3, y16_4, y16_5, I16, J16) => (match f222_185 N (tup I16 186 2488 ((I16 186 2488) + 1)) J16 with | none => none | some (_, I17, J17) => (match f248_185 N I17 J17 y16_1 y16_3 with | none => none | some (v18, I18, J18) => bif xcmp .ne v18 0 then (bif xcmp .eq y16_4 0 then f249_185_j222 N I18 J18 y16_1 y16_2 y16_3 else f249_185_j222 N (tup (tup I18 193 (((I18 185 22)).toNatClampNeg) y16_2) 185 22 ((I18 185 22) + 1)) J18 y16_1 y16_2 y16_3) else some (0, I18, J18))))
set_option maxRecDepth 100000 in
theorem f249_185_j117_pq {sc : List Int32} {B : xM} {N : Nat} {I : tI} {J : tJ} {x1 : Int32} {x2 : Int32} {x3 : Int32} {x4 : Int32} (hB : kB pT B) : ∀ {X : Option (Int32 × tI × tJ)}, f249_185_j117 N I J x1 x2 x3 x4 = X → pq sc B N (xt_249, 6, 3) 117 [(0, .ref 185), (1, .int x1), (2, .int x2), (3, .int x3), (4, .int x4)] [] I J (fun v I1 J1 => ∃ a, v = some (.int a) ∧ X = some (a, I1, J1)) := by
  intro X hq
  unfold f249_185_j117 at hq
  have hle : N ≤ N := Nat.le_refl N
  refine pq_s hB 5 (pc' := 125) (L' := [(0, .ref 185), (1, .int x1), (2, .int x2), (3, .int x3), (4, .int x4)]) (st' := [.int 27, .int x1, .int (I 185 23), .ref 185]) (I' := I) (J' := J) (by with_unfolding_all rfl) ?_
  refine pq_icn hB rfl (fun h10 => ?_) (fun h10 => ?_)
  · rw [h10, cond_true] at hq
    refine pq_s hB 10 (pc' := 147) (L' := [(5, .int 1), (0, .ref 185), (1, .int x1), (2, .int x2), (3, .int x3), (4, .int x4)]) (st' := []) (I' := (tup (tup I 185 23 ((I 185 23) + 1)) 186 ((x3).toNatClampNeg) x1)) (J' := J) (by with_unfolding_all rfl) ?_
    refine pq_perm (L := [(0, .ref 185), (1, .int x1), (2, .int x2), (3, .int x3), (4, .int x4), (5, .int 1)]) (leqn_of ⟨rfl, rfl, rfl, rfl, rfl, rfl, trivial⟩ ⟨rfl, rfl, rfl, rfl, rfl, rfl, trivial⟩ ⟨rfl, rfl, rfl, rfl, rfl, rfl, trivial⟩) ?_
    refine f249_185_l147_pq hB N (Nat.le_refl N) N N hle (Nat.le_refl N) rfl ?_
    intro y11_1 y11_2 y11_3 y11_4 y11_5 I11 J11 hc11
    rw [hc11] at hq
    dsimp only at hq
    refine pq_s hB 9 (pc' := 183) (L' := [(0, .ref 185), (1, .int y11_1), (2, .int y11_2), (3, .int y11_3), (4, .int y11_4), (5, .int y11_5)]) (st' := [.ref 185]) (I' := (tup I11 186 2488 ((I11 186 2488) + 1))) (J' := J11) (by with_unfolding_all rfl) ?_
    refine pq_1 rfl rfl rfl rfl (pq_le hle (f222_185_pq hB rfl)) ?_
    rintro _ I12 J12 ⟨rfl, hc12⟩
    rw [hc12] at hq
    dsimp only at hq
    refine pq_s hB 3 (pc' := 189) (L' := [(0, .ref 185), (1, .int y11_1), (2, .int y11_2), (3, .int y11_3), (4, .int y11_4), (5, .int y11_5)]) (st' := [.int y11_3, .int y11_1, .ref 185]) (I' := I12) (J' := J12) (by with_unfolding_all rfl) ?_
    refine pq_1 rfl rfl rfl rfl (pq_le hle (f248_185_pq hB rfl)) ?_
    rintro _ I13 J13 ⟨v13, rfl, hc13⟩
    rw [hc13] at hq
    dsimp only at hq
    refine pq_ifn hB rfl (fun h14 => ?_) (fun h14 => ?_)
    · rw [h14, cond_true] at hq
      refine pq_s hB 1 (pc' := 199) (L' := [(0, .ref 185), (1, .int y11_1), (2, .int y11_2), (3, .int y11_3), (4, .int y11_4), (5, .int y11_5)]) (st' := [.int y11_4]) (I' := I13) (J' := J13) (by with_unfolding_all rfl) ?_
      refine pq_ifn hB rfl (fun h15 => ?_) (fun h15 => ?_)
      · rw [h15, cond_true] at hq
        refine pq_perm (L := [(0, .ref 185), (1, .int y11_1), (2, .int y11_2), (3, .int y11_3)]) (leqn_of ⟨rfl, rfl, rfl, rfl, trivial⟩ ⟨rfl, rfl, rfl, rfl, trivial⟩ ⟨rfl, rfl, rfl, rfl, rfl, rfl, trivial⟩) ?_
        exact f249_185_j222_pq hB hq
      · rw [h15, cond_false] at hq
        refine pq_s hB 12 (pc' := 222) (L' := [(0, .ref 185), (1, .int y11_1), (2, .int y11_2), (3, .int y11_3), (4, .int y11_4), (5, .int y11_5)]) (st' := []) (I' := (tup (tup I13 193 (((I13 185 22)).toNatClampNeg) y11_2) 185 22 ((I13 185 22) + 1))) (J' := J13) (by with_unfolding_all rfl) ?_
        refine pq_perm (L := [(0, .ref 185), (1, .int y11_1), (2, .int y11_2), (3, .int y11_3)]) (leqn_of ⟨rfl, rfl, rfl, rfl, trivial⟩ ⟨rfl, rfl, rfl, rfl, trivial⟩ ⟨rfl, rfl, rfl, rfl, rfl, rfl, trivial⟩) ?_
        exact f249_185_j222_pq hB hq
    · rw [h14, cond_false] at hq
      refine pq_s hB 1 (pc' := 196) (L' := [(0, .ref 185), (1, .int y11_1), (2, .int y11_2), (3, .int y11_3), (4, .int y11_4), (5, .int y11_5)]) (st' := [.int 0]) (I' := I13) (J' := J13) (by with_unfolding_all rfl) ?_
      subst hq
      exact pq_2i (x := 0) rfl ⟨_, rfl, rfl⟩
  · rw [h10, cond_false] at hq
    refine pq_s hB 11 (pc' := 147) (L' := [(5, .int 1), (0, .ref 185), (1, .int x1), (2, .int x2), (3, .int x3), (4, .int x4)]) (st' := []) (I' := (tup (tup I 185 23 ((I 185 23) + 0)) 186 ((x3).toNatClampNeg) x1)) (J' := J) (by with_unfolding_all rfl) ?_
    refine pq_perm (L := [(0, .ref 185), (1, .int x1), (2, .int x2), (3, .int x3), (4, .int x4), (5, .int 1)]) (leqn_of ⟨rfl, rfl, rfl, rfl, rfl, rfl, trivial⟩ ⟨rfl, rfl, rfl, rfl, rfl, rfl, trivial⟩ ⟨rfl, rfl, rfl, rfl, rfl, rfl, trivial⟩) ?_
    refine f249_185_l147_pq hB N (Nat.le_refl N) N N hle (Nat.le_refl N) rfl ?_
    intro y16_1 y16_2 y16_3 y16_4 y16_5 I16 J16 hc16
    rw [hc16] at hq
    dsimp only at hq
    refine pq_s hB 9 (pc' := 183) (L' := [(0, .ref 185), (1, .int y16_1), (2, .int y16_2), (3, .int y16_3), (4, .int y16_4), (5, .int y16_5)]) (st' := [.ref 185]) (I' := (tup I16 186 2488 ((I16 186 2488) + 1))) (J' := J16) (by with_unfolding_all rfl) ?_
    refine pq_1 rfl rfl rfl rfl (pq_le hle (f222_185_pq hB rfl)) ?_
    rintro _ I17 J17 ⟨rfl, hc17⟩
    rw [hc17] at hq
    dsimp only at hq
    refine pq_s hB 3 (pc' := 189) (L' := [(0, .ref 185), (1, .int y16_1), (2, .int y16_2), (3, .int y16_3), (4, .int y16_4), (5, .int y16_5)]) (st' := [.int y16_3, .int y16_1, .ref 185]) (I' := I17) (J' := J17) (by with_unfolding_all rfl) ?_
    refine pq_1 rfl rfl rfl rfl (pq_le hle (f248_185_pq hB rfl)) ?_
    rintro _ I18 J18 ⟨v18, rfl, hc18⟩
    rw [hc18] at hq
    dsimp only at hq
    refine pq_ifn hB rfl (fun h19 => ?_) (fun h19 => ?_)
    · rw [h19, cond_true] at hq
      refine pq_s hB 1 (pc' := 199) (L' := [(0, .ref 185), (1, .int y16_1), (2, .int y16_2), (3, .int y16_3), (4, .int y16_4), (5, .int y16_5)]) (st' := [.int y16_4]) (I' := I18) (J' := J18) (by with_unfolding_all rfl) ?_
      refine pq_ifn hB rfl (fun h20 => ?_) (fun h20 => ?_)
      · rw [h20, cond_true] at hq
        refine pq_perm (L := [(0, .ref 185), (1, .int y16_1), (2, .int y16_2), (3, .int y16_3)]) (leqn_of ⟨rfl, rfl, rfl, rfl, trivial⟩ ⟨rfl, rfl, rfl, rfl, trivial⟩ ⟨rfl, rfl, rfl, rfl, rfl, rfl, trivial⟩) ?_
        exact f249_185_j222_pq hB hq
      · rw [h20, cond_false] at hq
        refine pq_s hB 12 (pc' := 222) (L' := [(0, .ref 185), (1, .int y16_1), (2, .int y16_2), (3, .int y16_3), (4, .int y16_4), (5, .int y16_5)]) (st' := []) (I' := (tup (tup I18 193 (((I18 185 22)).toNatClampNeg) y16_2) 185 22 ((I18 185 22) + 1))) (J' := J18) (by with_unfolding_all rfl) ?_
        refine pq_perm (L := [(0, .ref 185), (1, .int y16_1), (2, .int y16_2), (3, .int y16_3)]) (leqn_of ⟨rfl, rfl, rfl, rfl, trivial⟩ ⟨rfl, rfl, rfl, rfl, trivial⟩ ⟨rfl, rfl, rfl, rfl, rfl, rfl, trivial⟩) ?_
        exact f249_185_j222_pq hB hq
    · rw [h19, cond_false] at hq
      refine pq_s hB 1 (pc' := 196) (L' := [(0, .ref 185), (1, .int y16_1), (2, .int y16_2), (3, .int y16_3), (4, .int y16_4), (5, .int y16_5)]) (st' := [.int 0]) (I' := I18) (J' := J18) (by with_unfolding_all rfl) ?_
      subst hq
      exact pq_2i (x := 0) rfl ⟨_, rfl, rfl⟩
-- LPModel.runStep, from 97 on
def f249_185_j97 (N : Nat) (I : tI) (J : tJ) (x1 : Int32) (x2 : Int32) (x3 : Int32) (x4 : Int32) : Option (Int32 × tI × tJ) :=
  bif xcmp .eq x4 0 then f249_185_j117 N I J x1 x2 x3 x4 else bif xcmp .ne (I 185 22) 3 then f249_185_j117 N I J x1 x2 x3 x4 else (match f225_185 I J 7 with | (v11, I11, J11) => some (v11, I11, J11))
set_option maxRecDepth 100000 in
theorem f249_185_j97_pq {sc : List Int32} {B : xM} {N : Nat} {I : tI} {J : tJ} {x1 : Int32} {x2 : Int32} {x3 : Int32} {x4 : Int32} (hB : kB pT B) : ∀ {X : Option (Int32 × tI × tJ)}, f249_185_j97 N I J x1 x2 x3 x4 = X → pq sc B N (xt_249, 6, 3) 97 [(0, .ref 185), (1, .int x1), (2, .int x2), (3, .int x3), (4, .int x4)] [] I J (fun v I1 J1 => ∃ a, v = some (.int a) ∧ X = some (a, I1, J1)) := by
  intro X hq
  unfold f249_185_j97 at hq
  have hle : N ≤ N := Nat.le_refl N
  refine pq_s hB 1 (pc' := 99) (L' := [(0, .ref 185), (1, .int x1), (2, .int x2), (3, .int x3), (4, .int x4)]) (st' := [.int x4]) (I' := I) (J' := J) (by with_unfolding_all rfl) ?_
  refine pq_ifn hB rfl (fun h9 => ?_) (fun h9 => ?_)
  · rw [h9, cond_true] at hq
    exact f249_185_j117_pq hB hq
  · rw [h9, cond_false] at hq
    refine pq_s hB 3 (pc' := 107) (L' := [(0, .ref 185), (1, .int x1), (2, .int x2), (3, .int x3), (4, .int x4)]) (st' := [.int 3, .int (I 185 22)]) (I' := I) (J' := J) (by with_unfolding_all rfl) ?_
    refine pq_icn hB rfl (fun h10 => ?_) (fun h10 => ?_)
    · rw [h10, cond_true] at hq
      exact f249_185_j117_pq hB hq
    · rw [h10, cond_false] at hq
      refine pq_s hB 2 (pc' := 113) (L' := [(0, .ref 185), (1, .int x1), (2, .int x2), (3, .int x3), (4, .int x4)]) (st' := [.int 7, .ref 185]) (I' := I) (J' := J) (by with_unfolding_all rfl) ?_
      generalize hc11 : f225_185 I J 7 = q11 at hq
      obtain ⟨v11, _, _⟩ := q11
      dsimp only at hq
      refine pq_1 rfl rfl rfl rfl (f225_185_pq hB hc11) ?_
      rintro _ I11 J11 ⟨rfl, rfl, rfl⟩
      subst hq
      exact pq_2i (x := v11) rfl ⟨_, rfl, rfl⟩
-- LPModel.runStep, from 75 on
def f249_185_j75 (N : Nat) (I : tI) (J : tJ) (x1 : Int32) (x2 : Int32) (x3 : Int32) (x4 : Int32) : Option (Int32 × tI × tJ) :=
  bif xcmp .eq x1 27 then f249_185_j97 N I J x1 x2 x3 x4 else bif xcmp .ne (I 185 23) 30 then f249_185_j97 N I J x1 x2 x3 x4 else (match f225_185 I J 6 with | (v10, I10, J10) => some (v10, I10, J10))
set_option maxRecDepth 100000 in
theorem f249_185_j75_pq {sc : List Int32} {B : xM} {N : Nat} {I : tI} {J : tJ} {x1 : Int32} {x2 : Int32} {x3 : Int32} {x4 : Int32} (hB : kB pT B) : ∀ {X : Option (Int32 × tI × tJ)}, f249_185_j75 N I J x1 x2 x3 x4 = X → pq sc B N (xt_249, 6, 3) 75 [(0, .ref 185), (1, .int x1), (2, .int x2), (3, .int x3), (4, .int x4)] [] I J (fun v I1 J1 => ∃ a, v = some (.int a) ∧ X = some (a, I1, J1)) := by
  intro X hq
  unfold f249_185_j75 at hq
  have hle : N ≤ N := Nat.le_refl N
  refine pq_s hB 2 (pc' := 78) (L' := [(0, .ref 185), (1, .int x1), (2, .int x2), (3, .int x3), (4, .int x4)]) (st' := [.int 27, .int x1]) (I' := I) (J' := J) (by with_unfolding_all rfl) ?_
  refine pq_icn hB rfl (fun h8 => ?_) (fun h8 => ?_)
  · rw [h8, cond_true] at hq
    exact f249_185_j97_pq hB hq
  · rw [h8, cond_false] at hq
    refine pq_s hB 3 (pc' := 87) (L' := [(0, .ref 185), (1, .int x1), (2, .int x2), (3, .int x3), (4, .int x4)]) (st' := [.int 30, .int (I 185 23)]) (I' := I) (J' := J) (by with_unfolding_all rfl) ?_
    refine pq_icn hB rfl (fun h9 => ?_) (fun h9 => ?_)
    · rw [h9, cond_true] at hq
      exact f249_185_j97_pq hB hq
    · rw [h9, cond_false] at hq
      refine pq_s hB 2 (pc' := 93) (L' := [(0, .ref 185), (1, .int x1), (2, .int x2), (3, .int x3), (4, .int x4)]) (st' := [.int 6, .ref 185]) (I' := I) (J' := J) (by with_unfolding_all rfl) ?_
      generalize hc10 : f225_185 I J 6 = q10 at hq
      obtain ⟨v10, _, _⟩ := q10
      dsimp only at hq
      refine pq_1 rfl rfl rfl rfl (f225_185_pq hB hc10) ?_
      rintro _ I10 J10 ⟨rfl, rfl, rfl⟩
      subst hq
      exact pq_2i (x := v10) rfl ⟨_, rfl, rfl⟩
-- LPModel.runStep, from 42 on
def f249_185_j42 (N : Nat) (I : tI) (J : tJ) (x1 : Int32) (x2 : Int32) (x3 : Int32) (s0 : Int32) : Option (Int32 × tI × tJ) :=
  bif xcmp .lt x1 21 then (match f225_185 I J 2 with | (v4, I4, J4) => some (v4, I4, J4)) else bif xcmp .gt x1 28 then (match f225_185 I J 2 with | (v6, I6, J6) => some (v6, I6, J6)) else bif xcmp .ne x1 27 then f249_185_j75 N I J x1 x2 x3 s0 else bif xcmp .ne (I 185 22) 0 then f249_185_j75 N I J x1 x2 x3 s0 else (match f225_185 I J 2 with | (v9, I9, J9) => some (v9, I9, J9))
set_option maxRecDepth 100000 in
theorem f249_185_j42_pq {sc : List Int32} {B : xM} {N : Nat} {I : tI} {J : tJ} {x1 : Int32} {x2 : Int32} {x3 : Int32} {s0 : Int32} (hB : kB pT B) : ∀ {X : Option (Int32 × tI × tJ)}, f249_185_j42 N I J x1 x2 x3 s0 = X → pq sc B N (xt_249, 6, 3) 42 [(0, .ref 185), (1, .int x1), (2, .int x2), (3, .int x3)] [.int s0] I J (fun v I1 J1 => ∃ a, v = some (.int a) ∧ X = some (a, I1, J1)) := by
  intro X hq
  unfold f249_185_j42 at hq
  have hle : N ≤ N := Nat.le_refl N
  refine pq_s hB 3 (pc' := 47) (L' := [(4, .int s0), (0, .ref 185), (1, .int x1), (2, .int x2), (3, .int x3)]) (st' := [.int 21, .int x1]) (I' := I) (J' := J) (by with_unfolding_all rfl) ?_
  refine pq_icn hB rfl (fun h3 => ?_) (fun h3 => ?_)
  · rw [h3, cond_true] at hq
    refine pq_s hB 2 (pc' := 71) (L' := [(4, .int s0), (0, .ref 185), (1, .int x1), (2, .int x2), (3, .int x3)]) (st' := [.int 2, .ref 185]) (I' := I) (J' := J) (by with_unfolding_all rfl) ?_
    generalize hc4 : f225_185 I J 2 = q4 at hq
    obtain ⟨v4, _, _⟩ := q4
    dsimp only at hq
    refine pq_1 rfl rfl rfl rfl (f225_185_pq hB hc4) ?_
    rintro _ I4 J4 ⟨rfl, rfl, rfl⟩
    subst hq
    exact pq_2i (x := v4) rfl ⟨_, rfl, rfl⟩
  · rw [h3, cond_false] at hq
    refine pq_s hB 2 (pc' := 53) (L' := [(4, .int s0), (0, .ref 185), (1, .int x1), (2, .int x2), (3, .int x3)]) (st' := [.int 28, .int x1]) (I' := I) (J' := J) (by with_unfolding_all rfl) ?_
    refine pq_icn hB rfl (fun h5 => ?_) (fun h5 => ?_)
    · rw [h5, cond_true] at hq
      refine pq_s hB 2 (pc' := 71) (L' := [(4, .int s0), (0, .ref 185), (1, .int x1), (2, .int x2), (3, .int x3)]) (st' := [.int 2, .ref 185]) (I' := I) (J' := J) (by with_unfolding_all rfl) ?_
      generalize hc6 : f225_185 I J 2 = q6 at hq
      obtain ⟨v6, _, _⟩ := q6
      dsimp only at hq
      refine pq_1 rfl rfl rfl rfl (f225_185_pq hB hc6) ?_
      rintro _ I6 J6 ⟨rfl, rfl, rfl⟩
      subst hq
      exact pq_2i (x := v6) rfl ⟨_, rfl, rfl⟩
    · rw [h5, cond_false] at hq
      refine pq_s hB 2 (pc' := 59) (L' := [(4, .int s0), (0, .ref 185), (1, .int x1), (2, .int x2), (3, .int x3)]) (st' := [.int 27, .int x1]) (I' := I) (J' := J) (by with_unfolding_all rfl) ?_
      refine pq_icn hB rfl (fun h7 => ?_) (fun h7 => ?_)
      · rw [h7, cond_true] at hq
        refine pq_perm (L := [(0, .ref 185), (1, .int x1), (2, .int x2), (3, .int x3), (4, .int s0)]) (leqn_of ⟨rfl, rfl, rfl, rfl, rfl, trivial⟩ ⟨rfl, rfl, rfl, rfl, rfl, trivial⟩ ⟨rfl, rfl, rfl, rfl, rfl, trivial⟩) ?_
        exact f249_185_j75_pq hB hq
      · rw [h7, cond_false] at hq
        refine pq_s hB 2 (pc' := 66) (L' := [(4, .int s0), (0, .ref 185), (1, .int x1), (2, .int x2), (3, .int x3)]) (st' := [.int (I 185 22)]) (I' := I) (J' := J) (by with_unfolding_all rfl) ?_
        refine pq_ifn hB rfl (fun h8 => ?_) (fun h8 => ?_)
        · rw [h8, cond_true] at hq
          refine pq_perm (L := [(0, .ref 185), (1, .int x1), (2, .int x2), (3, .int x3), (4, .int s0)]) (leqn_of ⟨rfl, rfl, rfl, rfl, rfl, trivial⟩ ⟨rfl, rfl, rfl, rfl, rfl, trivial⟩ ⟨rfl, rfl, rfl, rfl, rfl, trivial⟩) ?_
          exact f249_185_j75_pq hB hq
        · rw [h8, cond_false] at hq
          refine pq_s hB 2 (pc' := 71) (L' := [(4, .int s0), (0, .ref 185), (1, .int x1), (2, .int x2), (3, .int x3)]) (st' := [.int 2, .ref 185]) (I' := I) (J' := J) (by with_unfolding_all rfl) ?_
          generalize hc9 : f225_185 I J 2 = q9 at hq
          obtain ⟨v9, _, _⟩ := q9
          dsimp only at hq
          refine pq_1 rfl rfl rfl rfl (f225_185_pq hB hc9) ?_
          rintro _ I9 J9 ⟨rfl, rfl, rfl⟩
          subst hq
          exact pq_2i (x := v9) rfl ⟨_, rfl, rfl⟩
-- LPModel.runStep, from 37 on
def f249_185_j37 (N : Nat) (I : tI) (J : tJ) (x1 : Int32) (x2 : Int32) (x3 : Int32) : Option (Int32 × tI × tJ) :=
  f249_185_j42 N I J x1 x2 x3 1
set_option maxRecDepth 100000 in
theorem f249_185_j37_pq {sc : List Int32} {B : xM} {N : Nat} {I : tI} {J : tJ} {x1 : Int32} {x2 : Int32} {x3 : Int32} (hB : kB pT B) : ∀ {X : Option (Int32 × tI × tJ)}, f249_185_j37 N I J x1 x2 x3 = X → pq sc B N (xt_249, 6, 3) 37 [(0, .ref 185), (1, .int x1), (2, .int x2), (3, .int x3)] [] I J (fun v I1 J1 => ∃ a, v = some (.int a) ∧ X = some (a, I1, J1)) := by
  intro X hq
  unfold f249_185_j37 at hq
  have hle : N ≤ N := Nat.le_refl N
  refine pq_s hB 2 (pc' := 42) (L' := [(0, .ref 185), (1, .int x1), (2, .int x2), (3, .int x3)]) (st' := [.int 1]) (I' := I) (J' := J) (by with_unfolding_all rfl) ?_
  exact f249_185_j42_pq hB hq
-- LPModel.runStep
def f249_185 (N : Nat) (I : tI) (J : tJ) : Option (Int32 × tI × tJ) :=
  (match f224_185_1002 N I J with | none => none | some (v1, I1, J1) => bif xcmp .eq v1 25 then f249_185_j37 N I1 J1 v1 (I1 186 2488) (2732 + (6 * (I1 186 2488))) else bif xcmp .ne v1 26 then f249_185_j42 N I1 J1 v1 (I1 186 2488) (2732 + (6 * (I1 186 2488))) 0 else f249_185_j37 N I1 J1 v1 (I1 186 2488) (2732 + (6 * (I1 186 2488))))
set_option maxRecDepth 100000 in
theorem f249_185_pq {sc : List Int32} {B : xM} {N : Nat} {I : tI} {J : tJ} (hB : kB pT B) : ∀ {X : Option (Int32 × tI × tJ)}, f249_185 N I J = X → pq sc B N (xt_249, 6, 3) 0 [(0, .ref 185)] [] I J (fun v I1 J1 => ∃ a, v = some (.int a) ∧ X = some (a, I1, J1)) := by
  intro X hq
  unfold f249_185 at hq
  have hle : N ≤ N := Nat.le_refl N
  refine pq_s hB 2 (pc' := 3) (L' := [(0, .ref 185)]) (st' := [.retAddr 2, .ref 185]) (I' := I) (J' := J) (by with_unfolding_all rfl) ?_
  refine pq_1 rfl rfl rfl rfl (pq_le hle (f224_185_1002_pq hB rfl)) ?_
  rintro _ I1 J1 ⟨v1, rfl, hc1⟩
  rw [hc1] at hq
  dsimp only at hq
  refine pq_s hB 14 (pc' := 28) (L' := [(3, .int (2732 + (6 * (I1 186 2488)))), (2, .int (I1 186 2488)), (1, .int v1), (0, .ref 185)]) (st' := [.int 25, .int v1]) (I' := I1) (J' := J1) (by with_unfolding_all rfl) ?_
  refine pq_icn hB rfl (fun h2 => ?_) (fun h2 => ?_)
  · rw [h2, cond_true] at hq
    refine pq_perm (L := [(0, .ref 185), (1, .int v1), (2, .int (I1 186 2488)), (3, .int (2732 + (6 * (I1 186 2488))))]) (leqn_of ⟨rfl, rfl, rfl, rfl, trivial⟩ ⟨rfl, rfl, rfl, rfl, trivial⟩ ⟨rfl, rfl, rfl, rfl, trivial⟩) ?_
    exact f249_185_j37_pq hB hq
  · rw [h2, cond_false] at hq
    refine pq_s hB 2 (pc' := 34) (L' := [(3, .int (2732 + (6 * (I1 186 2488)))), (2, .int (I1 186 2488)), (1, .int v1), (0, .ref 185)]) (st' := [.int 26, .int v1]) (I' := I1) (J' := J1) (by with_unfolding_all rfl) ?_
    refine pq_icn hB rfl (fun h3 => ?_) (fun h3 => ?_)
    · rw [h3, cond_true] at hq
      refine pq_s hB 1 (pc' := 42) (L' := [(3, .int (2732 + (6 * (I1 186 2488)))), (2, .int (I1 186 2488)), (1, .int v1), (0, .ref 185)]) (st' := [.int 0]) (I' := I1) (J' := J1) (by with_unfolding_all rfl) ?_
      refine pq_perm (L := [(0, .ref 185), (1, .int v1), (2, .int (I1 186 2488)), (3, .int (2732 + (6 * (I1 186 2488))))]) (leqn_of ⟨rfl, rfl, rfl, rfl, trivial⟩ ⟨rfl, rfl, rfl, rfl, trivial⟩ ⟨rfl, rfl, rfl, rfl, trivial⟩) ?_
      exact f249_185_j42_pq hB hq
    · rw [h3, cond_false] at hq
      refine pq_perm (L := [(0, .ref 185), (1, .int v1), (2, .int (I1 186 2488)), (3, .int (2732 + (6 * (I1 186 2488))))]) (leqn_of ⟨rfl, rfl, rfl, rfl, trivial⟩ ⟨rfl, rfl, rfl, rfl, trivial⟩ ⟨rfl, rfl, rfl, rfl, trivial⟩) ?_
      exact f249_185_j37_pq hB hq
-- LPModel.runs, the loop at 38, to [57]
def f250_185_l38 (N : Nat) : Nat → tI → tJ → Int32 → Option (Int32 × tI × tJ)
  | 0, _, _, _ => none
  | k + 1, I, J, x2 =>
    bif xcmp .eq x2 0 then some (x2, I, J) else bif xcmp .eq (I 185 12) 0 then some (x2, I, J) else (match f249_185 N I J with | none => none | some (v5, I5, J5) => f250_185_l38 N k I5 J5 v5)
set_option maxRecDepth 100000 in
theorem f250_185_l38_pq {sc : List Int32} {B : xM} {N : Nat} {P : Option Value → tI → tJ → Prop} (hB : kB pT B) : ∀ (k : Nat), k ≤ N → ∀ (b m : Nat), b ≤ k → b ≤ m → ∀ {I : tI} {J : tJ} {x2 : Int32} {Y : Option (Int32 × tI × tJ)}, f250_185_l38 N k I J x2 = Y → (∀ {y2 : Int32} {I1 : tI} {J1 : tJ}, Y = some (y2, I1, J1) → pq sc B m (xt_250, 4, 1) 57 [(0, .ref 185), (2, .int y2)] [] I1 J1 P) → pq sc B b (xt_250, 4, 1) 38 [(0, .ref 185), (2, .int x2)] [] I J P
  | 0, _, b, _, hb, _, _, _, _, _, _, _ => by
    have e : b = 0 := by omega
    subst e
    exact pq_zero
  | _ + 1, _, 0, _, _, _, _, _, _, _, _, _ => pq_zero
  | k + 1, hk, b + 1, m, hb, hm, I, J, x2, Y, hq, hx0 => by
    unfold f250_185_l38 at hq
    have hle : b ≤ N := by omega
    refine pq_s1 hB 0 (pc' := 39) (L' := [(0, .ref 185), (2, .int x2)]) (st' := [.int x2]) (I' := I) (J' := J) (by with_unfolding_all rfl) ?_
    refine pq_ifn hB rfl (fun h3 => ?_) (fun h3 => ?_)
    · rw [h3, cond_true] at hq
      exact pq_le (by omega) (hx0 hq.symm)
    · rw [h3, cond_false] at hq
      refine pq_s hB 2 (pc' := 46) (L' := [(0, .ref 185), (2, .int x2)]) (st' := [.int (I 185 12)]) (I' := I) (J' := J) (by with_unfolding_all rfl) ?_
      refine pq_ifn hB rfl (fun h4 => ?_) (fun h4 => ?_)
      · rw [h4, cond_true] at hq
        exact pq_le (by omega) (hx0 hq.symm)
      · rw [h4, cond_false] at hq
        refine pq_s hB 1 (pc' := 50) (L' := [(0, .ref 185), (2, .int x2)]) (st' := [.ref 185]) (I' := I) (J' := J) (by with_unfolding_all rfl) ?_
        refine pq_1 rfl rfl rfl rfl (pq_le hle (f249_185_pq hB rfl)) ?_
        rintro _ I5 J5 ⟨v5, rfl, hc5⟩
        rw [hc5] at hq
        dsimp only at hq
        refine pq_s hB 2 (pc' := 38) (L' := [(2, .int v5), (0, .ref 185)]) (st' := []) (I' := I5) (J' := J5) (by with_unfolding_all rfl) ?_
        refine pq_perm (L := [(0, .ref 185), (2, .int v5)]) (leqn_of ⟨rfl, rfl, trivial⟩ ⟨rfl, rfl, trivial⟩ ⟨rfl, rfl, trivial⟩) ?_
        exact f250_185_l38_pq hB k (by omega) b m (by omega) (by omega) hq hx0
-- LPModel.runs, the loop at 103, to [132]
def f250_185_l103 (N : Nat) : Nat → tI → tJ → Int32 → Option (Int32 × tI × tJ)
  | 0, _, _, _ => none
  | k + 1, I, J, x3 =>
    bif xcmp .ge x3 612 then some (x3, I, J) else f250_185_l103 N k (tup I 186 ((x3).toNatClampNeg) (I 186 ((2480 + x3)).toNatClampNeg)) J (x3 + 1)
set_option maxRecDepth 100000 in
theorem f250_185_l103_pq {sc : List Int32} {B : xM} {N : Nat} {P : Option Value → tI → tJ → Prop} (hB : kB pT B) : ∀ (k : Nat), k ≤ N → ∀ (b m : Nat), b ≤ k → b ≤ m → ∀ {I : tI} {J : tJ} {x3 : Int32} {Y : Option (Int32 × tI × tJ)}, f250_185_l103 N k I J x3 = Y → (∀ {y3 : Int32} {I1 : tI} {J1 : tJ}, Y = some (y3, I1, J1) → pq sc B m (xt_250, 4, 1) 132 [(0, .ref 185), (3, .int y3)] [] I1 J1 P) → pq sc B b (xt_250, 4, 1) 103 [(0, .ref 185), (3, .int x3)] [] I J P
  | 0, _, b, _, hb, _, _, _, _, _, _, _ => by
    have e : b = 0 := by omega
    subst e
    exact pq_zero
  | _ + 1, _, 0, _, _, _, _, _, _, _, _, _ => pq_zero
  | k + 1, hk, b + 1, m, hb, hm, I, J, x3, Y, hq, hx0 => by
    unfold f250_185_l103 at hq
    have hle : b ≤ N := by omega
    refine pq_s1 hB 1 (pc' := 107) (L' := [(0, .ref 185), (3, .int x3)]) (st' := [.int 612, .int x3]) (I' := I) (J' := J) (by with_unfolding_all rfl) ?_
    refine pq_icn hB rfl (fun h7 => ?_) (fun h7 => ?_)
    · rw [h7, cond_true] at hq
      exact pq_le (by omega) (hx0 hq.symm)
    · rw [h7, cond_false] at hq
      refine pq_s hB 12 (pc' := 103) (L' := [(3, .int (x3 + 1)), (0, .ref 185)]) (st' := []) (I' := (tup I 186 ((x3).toNatClampNeg) (I 186 ((2480 + x3)).toNatClampNeg))) (J' := J) (by with_unfolding_all rfl) ?_
      refine pq_perm (L := [(0, .ref 185), (3, .int (x3 + 1))]) (leqn_of ⟨rfl, rfl, trivial⟩ ⟨rfl, rfl, trivial⟩ ⟨rfl, rfl, trivial⟩) ?_
      exact f250_185_l103_pq hB k (by omega) b m (by omega) (by omega) hq hx0
-- LPModel.runs, from 77 on
def f250_185_j77 (N : Nat) (I : tI) (J : tJ) : Option (Int32 × tI × tJ) :=
  bif xcmp .ne (I 185 18) 0 then (match f234_185 I J (I 185 23) with | (v6, I6, J6) => some (v6, I6, J6)) else (match f250_185_l103 N N (tup I 186 8 (I 186 2488)) J 252 with | none => none | some (y7_3, I7, J7) => (match f234_185 I7 J7 (I7 185 23) with | (v8, I8, J8) => some (v8, I8, J8)))
set_option maxRecDepth 100000 in
theorem f250_185_j77_pq {sc : List Int32} {B : xM} {N : Nat} {I : tI} {J : tJ} (hB : kB pT B) : ∀ {X : Option (Int32 × tI × tJ)}, f250_185_j77 N I J = X → pq sc B N (xt_250, 4, 1) 77 [(0, .ref 185)] [] I J (fun v I1 J1 => ∃ a, v = some (.int a) ∧ X = some (a, I1, J1)) := by
  intro X hq
  unfold f250_185_j77 at hq
  have hle : N ≤ N := Nat.le_refl N
  refine pq_s hB 2 (pc' := 81) (L' := [(0, .ref 185)]) (st' := [.int (I 185 18)]) (I' := I) (J' := J) (by with_unfolding_all rfl) ?_
  refine pq_ifn hB rfl (fun h5 => ?_) (fun h5 => ?_)
  · rw [h5, cond_true] at hq
    refine pq_s hB 3 (pc' := 137) (L' := [(0, .ref 185)]) (st' := [.int (I 185 23), .ref 185]) (I' := I) (J' := J) (by with_unfolding_all rfl) ?_
    generalize hc6 : f234_185 I J (I 185 23) = q6 at hq
    obtain ⟨v6, _, _⟩ := q6
    dsimp only at hq
    refine pq_1 rfl rfl rfl rfl (f234_185_pq hB hc6) ?_
    rintro _ I6 J6 ⟨rfl, rfl, rfl⟩
    subst hq
    exact pq_2i (x := v6) rfl ⟨_, rfl, rfl⟩
  · rw [h5, cond_false] at hq
    refine pq_s hB 10 (pc' := 103) (L' := [(3, .int 252), (0, .ref 185)]) (st' := []) (I' := (tup I 186 8 (I 186 2488))) (J' := J) (by with_unfolding_all rfl) ?_
    refine pq_perm (L := [(0, .ref 185), (3, .int 252)]) (leqn_of ⟨rfl, rfl, trivial⟩ ⟨rfl, rfl, trivial⟩ ⟨rfl, rfl, trivial⟩) ?_
    refine f250_185_l103_pq hB N (Nat.le_refl N) N N hle (Nat.le_refl N) rfl ?_
    intro y7_3 I7 J7 hc7
    rw [hc7] at hq
    dsimp only at hq
    refine pq_s hB 3 (pc' := 137) (L' := [(0, .ref 185), (3, .int y7_3)]) (st' := [.int (I7 185 23), .ref 185]) (I' := I7) (J' := J7) (by with_unfolding_all rfl) ?_
    generalize hc8 : f234_185 I7 J7 (I7 185 23) = q8 at hq
    obtain ⟨v8, _, _⟩ := q8
    dsimp only at hq
    refine pq_1 rfl rfl rfl rfl (f234_185_pq hB hc8) ?_
    rintro _ I8 J8 ⟨rfl, rfl, rfl⟩
    subst hq
    exact pq_2i (x := v8) rfl ⟨_, rfl, rfl⟩
-- LPModel.runs, from 57 on
def f250_185_j57 (N : Nat) (I : tI) (J : tJ) : Option (Int32 × tI × tJ) :=
  bif xcmp .ne (I 185 18) 0 then f250_185_j77 N I J else bif xcmp .le (I 185 22) 0 then f250_185_j77 N I J else (match f225_185 I J 2 with | (v6, I6, J6) => f250_185_j77 N I6 J6)
set_option maxRecDepth 100000 in
theorem f250_185_j57_pq {sc : List Int32} {B : xM} {N : Nat} {I : tI} {J : tJ} (hB : kB pT B) : ∀ {X : Option (Int32 × tI × tJ)}, f250_185_j57 N I J = X → pq sc B N (xt_250, 4, 1) 57 [(0, .ref 185)] [] I J (fun v I1 J1 => ∃ a, v = some (.int a) ∧ X = some (a, I1, J1)) := by
  intro X hq
  unfold f250_185_j57 at hq
  have hle : N ≤ N := Nat.le_refl N
  refine pq_s hB 2 (pc' := 61) (L' := [(0, .ref 185)]) (st' := [.int (I 185 18)]) (I' := I) (J' := J) (by with_unfolding_all rfl) ?_
  refine pq_ifn hB rfl (fun h4 => ?_) (fun h4 => ?_)
  · rw [h4, cond_true] at hq
    exact f250_185_j77_pq hB hq
  · rw [h4, cond_false] at hq
    refine pq_s hB 2 (pc' := 68) (L' := [(0, .ref 185)]) (st' := [.int (I 185 22)]) (I' := I) (J' := J) (by with_unfolding_all rfl) ?_
    refine pq_ifn hB rfl (fun h5 => ?_) (fun h5 => ?_)
    · rw [h5, cond_true] at hq
      exact f250_185_j77_pq hB hq
    · rw [h5, cond_false] at hq
      refine pq_s hB 2 (pc' := 73) (L' := [(0, .ref 185)]) (st' := [.int 2, .ref 185]) (I' := I) (J' := J) (by with_unfolding_all rfl) ?_
      generalize hc6 : f225_185 I J 2 = q6 at hq
      obtain ⟨v6, _, _⟩ := q6
      dsimp only at hq
      refine pq_1 rfl rfl rfl rfl (f225_185_pq hB hc6) ?_
      rintro _ I6 J6 ⟨rfl, rfl, rfl⟩
      refine pq_s hB 1 (pc' := 77) (L' := [(0, .ref 185)]) (st' := []) (I' := I6) (J' := J6) (by with_unfolding_all rfl) ?_
      exact f250_185_j77_pq hB hq
-- LPModel.runs
def f250_185 (N : Nat) (I : tI) (J : tJ) (a0 : Int32) : Option (Int32 × tI × tJ) :=
  (match f226_185 N I J a0 300 with | none => none | some (v1, I1, J1) => bif xcmp .ne v1 0 then (match f250_185_l38 N N (tup (tup (tup I1 186 2488 0) 185 22 0) 185 23 0) J1 1 with | none => none | some (y3_2, I3, J3) => f250_185_j57 N I3 J3) else (match f205_185 I1 J1 1 with | (v4, I4, J4) => some (v4, I4, J4)))
set_option maxRecDepth 100000 in
theorem f250_185_pq {sc : List Int32} {B : xM} {N : Nat} {I : tI} {J : tJ} {a0 : Int32} (hB : kB pT B) : ∀ {X : Option (Int32 × tI × tJ)}, f250_185 N I J a0 = X → pq sc B N (xt_250, 4, 1) 0 [(0, .ref 185), (1, .int a0)] [] I J (fun v I1 J1 => ∃ a, v = some (.int a) ∧ X = some (a, I1, J1)) := by
  intro X hq
  unfold f250_185 at hq
  have hle : N ≤ N := Nat.le_refl N
  refine pq_s hB 3 (pc' := 5) (L' := [(0, .ref 185), (1, .int a0)]) (st' := [.int 300, .int a0, .ref 185]) (I' := I) (J' := J) (by with_unfolding_all rfl) ?_
  refine pq_1 rfl rfl rfl rfl (pq_le hle (f226_185_pq hB rfl)) ?_
  rintro _ I1 J1 ⟨v1, rfl, hc1⟩
  rw [hc1] at hq
  dsimp only at hq
  refine pq_ifn hB rfl (fun h2 => ?_) (fun h2 => ?_)
  · rw [h2, cond_true] at hq
    refine pq_s hB 13 (pc' := 38) (L' := [(2, .int 1), (0, .ref 185), (1, .int a0)]) (st' := []) (I' := (tup (tup (tup I1 186 2488 0) 185 22 0) 185 23 0)) (J' := J1) (by with_unfolding_all rfl) ?_
    refine pq_perm (L := [(0, .ref 185), (2, .int 1)]) (leqn_of ⟨rfl, rfl, trivial⟩ ⟨rfl, rfl, trivial⟩ ⟨rfl, rfl, rfl, trivial⟩) ?_
    refine f250_185_l38_pq hB N (Nat.le_refl N) N N hle (Nat.le_refl N) rfl ?_
    intro y3_2 I3 J3 hc3
    rw [hc3] at hq
    dsimp only at hq
    refine pq_perm (L := [(0, .ref 185)]) (leqn_of ⟨rfl, trivial⟩ ⟨rfl, trivial⟩ ⟨rfl, rfl, trivial⟩) ?_
    exact f250_185_j57_pq hB hq
  · rw [h2, cond_false] at hq
    refine pq_s hB 2 (pc' := 13) (L' := [(0, .ref 185), (1, .int a0)]) (st' := [.int 1, .ref 185]) (I' := I1) (J' := J1) (by with_unfolding_all rfl) ?_
    generalize hc4 : f205_185 I1 J1 1 = q4 at hq
    obtain ⟨v4, _, _⟩ := q4
    dsimp only at hq
    refine pq_1 rfl rfl rfl rfl (f205_185_pq hB hc4) ?_
    rintro _ I4 J4 ⟨rfl, rfl, rfl⟩
    subst hq
    exact pq_2i (x := v4) rfl ⟨_, rfl, rfl⟩
-- LP.putOnTape, the loop at 3, to [49]
def f142_0_l3 (N : Nat) : Nat → tI → tJ → Int32 → Int32 → Option (Int32 × Int32 × tI × tJ)
  | 0, _, _, _, _ => none
  | k + 1, I, J, x1, x2 =>
    bif xcmp .lt x2 0 then some (x1, x2, I, J) else bif xcmp .ge (I 0 4) 900 then f142_0_l3 N k I J x1 (x2 + (-8)) else f142_0_l3 N k (tup (tup I 9 (((I 0 4)).toNatClampNeg) ((((((x1).toUInt32 >>> ((x2).toUInt32 &&& Int32.toUInt32 31)).toInt32)).toInt8.toInt32).toInt8.toInt32)) 0 4 ((I 0 4) + 1)) J x1 (x2 + (-8))
set_option maxRecDepth 100000 in
theorem f142_0_l3_pq {sc : List Int32} {B : xM} {N : Nat} {P : Option Value → tI → tJ → Prop} (hB : kB pT B) : ∀ (k : Nat), k ≤ N → ∀ (b m : Nat), b ≤ k → b ≤ m → ∀ {I : tI} {J : tJ} {x1 : Int32} {x2 : Int32} {Y : Option (Int32 × Int32 × tI × tJ)}, f142_0_l3 N k I J x1 x2 = Y → (∀ {y1 : Int32} {y2 : Int32} {I1 : tI} {J1 : tJ}, Y = some (y1, y2, I1, J1) → pq sc B m (xt_142, 3, 0) 49 [(0, .ref 0), (1, .int y1), (2, .int y2)] [] I1 J1 P) → pq sc B b (xt_142, 3, 0) 3 [(0, .ref 0), (1, .int x1), (2, .int x2)] [] I J P
  | 0, _, b, _, hb, _, _, _, _, _, _, _, _ => by
    have e : b = 0 := by omega
    subst e
    exact pq_zero
  | _ + 1, _, 0, _, _, _, _, _, _, _, _, _, _ => pq_zero
  | k + 1, hk, b + 1, m, hb, hm, I, J, x1, x2, Y, hq, hx0 => by
    unfold f142_0_l3 at hq
    have hle : b ≤ N := by omega
    refine pq_s1 hB 0 (pc' := 4) (L' := [(0, .ref 0), (1, .int x1), (2, .int x2)]) (st' := [.int x2]) (I' := I) (J' := J) (by with_unfolding_all rfl) ?_
    refine pq_ifn hB rfl (fun h1 => ?_) (fun h1 => ?_)
    · rw [h1, cond_true] at hq
      exact pq_le (by omega) (hx0 hq.symm)
    · rw [h1, cond_false] at hq
      refine pq_s hB 3 (pc' := 14) (L' := [(0, .ref 0), (1, .int x1), (2, .int x2)]) (st' := [.int 900, .int (I 0 4)]) (I' := I) (J' := J) (by with_unfolding_all rfl) ?_
      refine pq_icn hB rfl (fun h2 => ?_) (fun h2 => ?_)
      · rw [h2, cond_true] at hq
        refine pq_s hB 2 (pc' := 3) (L' := [(2, .int (x2 + (-8))), (0, .ref 0), (1, .int x1)]) (st' := []) (I' := I) (J' := J) (by with_unfolding_all rfl) ?_
        refine pq_perm (L := [(0, .ref 0), (1, .int x1), (2, .int (x2 + (-8)))]) (leqn_of ⟨rfl, rfl, rfl, trivial⟩ ⟨rfl, rfl, rfl, trivial⟩ ⟨rfl, rfl, rfl, trivial⟩) ?_
        exact f142_0_l3_pq hB k (by omega) b m (by omega) (by omega) hq hx0
      · rw [h2, cond_false] at hq
        refine pq_s hB 18 (pc' := 3) (L' := [(2, .int (x2 + (-8))), (0, .ref 0), (1, .int x1)]) (st' := []) (I' := (tup (tup I 9 (((I 0 4)).toNatClampNeg) ((((((x1).toUInt32 >>> ((x2).toUInt32 &&& Int32.toUInt32 31)).toInt32)).toInt8.toInt32).toInt8.toInt32)) 0 4 ((I 0 4) + 1))) (J' := J) (by with_unfolding_all rfl) ?_
        refine pq_perm (L := [(0, .ref 0), (1, .int x1), (2, .int (x2 + (-8)))]) (leqn_of ⟨rfl, rfl, rfl, trivial⟩ ⟨rfl, rfl, rfl, trivial⟩ ⟨rfl, rfl, rfl, trivial⟩) ?_
        exact f142_0_l3_pq hB k (by omega) b m (by omega) (by omega) hq hx0
-- LP.putOnTape
def f142_0 (N : Nat) (I : tI) (J : tJ) (a0 : Int32) : Option (Unit × tI × tJ) :=
  (match f142_0_l3 N N I J a0 24 with | none => none | some (y1_1, y1_2, I1, J1) => some ((), I1, J1))
set_option maxRecDepth 100000 in
theorem f142_0_pq {sc : List Int32} {B : xM} {N : Nat} {I : tI} {J : tJ} {a0 : Int32} (hB : kB pT B) : ∀ {X : Option (Unit × tI × tJ)}, f142_0 N I J a0 = X → pq sc B N (xt_142, 3, 0) 0 [(0, .ref 0), (1, .int a0)] [] I J (fun v I1 J1 => v = none ∧ X = some ((), I1, J1)) := by
  intro X hq
  unfold f142_0 at hq
  have hle : N ≤ N := Nat.le_refl N
  refine pq_s hB 2 (pc' := 3) (L' := [(2, .int 24), (0, .ref 0), (1, .int a0)]) (st' := []) (I' := I) (J' := J) (by with_unfolding_all rfl) ?_
  refine pq_perm (L := [(0, .ref 0), (1, .int a0), (2, .int 24)]) (leqn_of ⟨rfl, rfl, rfl, trivial⟩ ⟨rfl, rfl, rfl, trivial⟩ ⟨rfl, rfl, rfl, trivial⟩) ?_
  refine f142_0_l3_pq hB N (Nat.le_refl N) N N hle (Nat.le_refl N) rfl ?_
  intro y1_1 y1_2 I1 J1 hc1
  rw [hc1] at hq
  dsimp only at hq
  subst hq
  exact pq_2 (v := none) rfl rfl (by with_unfolding_all rfl) ⟨rfl, rfl⟩
-- LP.feed
def f141_0 (N : Nat) (I : tI) (J : tJ) (a0 : Int32) (a1 : Int32) (a2 : Int32) (a3 : Int32) (a4 : Int32) : Option (Int32 × tI × tJ) :=
  bif xcmp .le ((I 0 4) + 20) 900 then (match f142_0 N I J a0 with | none => none | some (_, I2, J2) => (match f142_0 N I2 J2 a1 with | none => none | some (_, I3, J3) => (match f142_0 N I3 J3 a2 with | none => none | some (_, I4, J4) => (match f142_0 N I4 J4 a3 with | none => none | some (_, I5, J5) => (match f142_0 N I5 J5 a4 with | none => none | some (_, I6, J6) => some ((I6 0 4), I6, J6)))))) else some ((-1), I, J)
set_option maxRecDepth 100000 in
theorem f141_0_pq {sc : List Int32} {B : xM} {N : Nat} {I : tI} {J : tJ} {a0 : Int32} {a1 : Int32} {a2 : Int32} {a3 : Int32} {a4 : Int32} (hB : kB pT B) : ∀ {X : Option (Int32 × tI × tJ)}, f141_0 N I J a0 a1 a2 a3 a4 = X → pq sc B N (xt_141, 6, 1) 0 [(0, .ref 0), (1, .int a0), (2, .int a1), (3, .int a2), (4, .int a3), (5, .int a4)] [] I J (fun v I1 J1 => ∃ a, v = some (.int a) ∧ X = some (a, I1, J1)) := by
  intro X hq
  unfold f141_0 at hq
  have hle : N ≤ N := Nat.le_refl N
  refine pq_s hB 5 (pc' := 10) (L' := [(0, .ref 0), (1, .int a0), (2, .int a1), (3, .int a2), (4, .int a3), (5, .int a4)]) (st' := [.int 900, .int ((I 0 4) + 20)]) (I' := I) (J' := J) (by with_unfolding_all rfl) ?_
  refine pq_icn hB rfl (fun h1 => ?_) (fun h1 => ?_)
  · rw [h1, cond_true] at hq
    refine pq_s hB 2 (pc' := 17) (L' := [(0, .ref 0), (1, .int a0), (2, .int a1), (3, .int a2), (4, .int a3), (5, .int a4)]) (st' := [.int a0, .ref 0]) (I' := I) (J' := J) (by with_unfolding_all rfl) ?_
    refine pq_1 rfl rfl rfl rfl (pq_le hle (f142_0_pq hB rfl)) ?_
    rintro _ I2 J2 ⟨rfl, hc2⟩
    rw [hc2] at hq
    dsimp only at hq
    refine pq_s hB 2 (pc' := 22) (L' := [(0, .ref 0), (1, .int a0), (2, .int a1), (3, .int a2), (4, .int a3), (5, .int a4)]) (st' := [.int a1, .ref 0]) (I' := I2) (J' := J2) (by with_unfolding_all rfl) ?_
    refine pq_1 rfl rfl rfl rfl (pq_le hle (f142_0_pq hB rfl)) ?_
    rintro _ I3 J3 ⟨rfl, hc3⟩
    rw [hc3] at hq
    dsimp only at hq
    refine pq_s hB 2 (pc' := 27) (L' := [(0, .ref 0), (1, .int a0), (2, .int a1), (3, .int a2), (4, .int a3), (5, .int a4)]) (st' := [.int a2, .ref 0]) (I' := I3) (J' := J3) (by with_unfolding_all rfl) ?_
    refine pq_1 rfl rfl rfl rfl (pq_le hle (f142_0_pq hB rfl)) ?_
    rintro _ I4 J4 ⟨rfl, hc4⟩
    rw [hc4] at hq
    dsimp only at hq
    refine pq_s hB 2 (pc' := 33) (L' := [(0, .ref 0), (1, .int a0), (2, .int a1), (3, .int a2), (4, .int a3), (5, .int a4)]) (st' := [.int a3, .ref 0]) (I' := I4) (J' := J4) (by with_unfolding_all rfl) ?_
    refine pq_1 rfl rfl rfl rfl (pq_le hle (f142_0_pq hB rfl)) ?_
    rintro _ I5 J5 ⟨rfl, hc5⟩
    rw [hc5] at hq
    dsimp only at hq
    refine pq_s hB 2 (pc' := 39) (L' := [(0, .ref 0), (1, .int a0), (2, .int a1), (3, .int a2), (4, .int a3), (5, .int a4)]) (st' := [.int a4, .ref 0]) (I' := I5) (J' := J5) (by with_unfolding_all rfl) ?_
    refine pq_1 rfl rfl rfl rfl (pq_le hle (f142_0_pq hB rfl)) ?_
    rintro _ I6 J6 ⟨rfl, hc6⟩
    rw [hc6] at hq
    dsimp only at hq
    refine pq_s hB 2 (pc' := 46) (L' := [(0, .ref 0), (1, .int a0), (2, .int a1), (3, .int a2), (4, .int a3), (5, .int a4)]) (st' := [.int (I6 0 4)]) (I' := I6) (J' := J6) (by with_unfolding_all rfl) ?_
    subst hq
    exact pq_2i (x := (I6 0 4)) rfl ⟨_, rfl, rfl⟩
  · rw [h1, cond_false] at hq
    refine pq_s hB 1 (pc' := 14) (L' := [(0, .ref 0), (1, .int a0), (2, .int a1), (3, .int a2), (4, .int a3), (5, .int a4)]) (st' := [.int (-1)]) (I' := I) (J' := J) (by with_unfolding_all rfl) ?_
    subst hq
    exact pq_2i (x := (-1)) rfl ⟨_, rfl, rfl⟩
-- LPModel.four, the loop at 3, to [36]
def f218_185_l3 (N : Nat) : Nat → tI → tJ → Int32 → Int32 → Option (Int32 × Int32 × tI × tJ)
  | 0, _, _, _, _ => none
  | k + 1, I, J, x1, x2 =>
    bif xcmp .lt x2 0 then some (x1, x2, I, J) else f218_185_l3 N k (tup (tup I 191 (((I 185 10)).toNatClampNeg) ((((x1 >>> (x2 &&& 31))).toInt8.toInt32).toInt8.toInt32)) 185 10 ((I 185 10) + 1)) J x1 (x2 + (-8))
set_option maxRecDepth 100000 in
theorem f218_185_l3_pq {sc : List Int32} {B : xM} {N : Nat} {P : Option Value → tI → tJ → Prop} (hB : kB pT B) : ∀ (k : Nat), k ≤ N → ∀ (b m : Nat), b ≤ k → b ≤ m → ∀ {I : tI} {J : tJ} {x1 : Int32} {x2 : Int32} {Y : Option (Int32 × Int32 × tI × tJ)}, f218_185_l3 N k I J x1 x2 = Y → (∀ {y1 : Int32} {y2 : Int32} {I1 : tI} {J1 : tJ}, Y = some (y1, y2, I1, J1) → pq sc B m (xt_218, 3, 0) 36 [(0, .ref 185), (1, .int y1), (2, .int y2)] [] I1 J1 P) → pq sc B b (xt_218, 3, 0) 3 [(0, .ref 185), (1, .int x1), (2, .int x2)] [] I J P
  | 0, _, b, _, hb, _, _, _, _, _, _, _, _ => by
    have e : b = 0 := by omega
    subst e
    exact pq_zero
  | _ + 1, _, 0, _, _, _, _, _, _, _, _, _, _ => pq_zero
  | k + 1, hk, b + 1, m, hb, hm, I, J, x1, x2, Y, hq, hx0 => by
    unfold f218_185_l3 at hq
    have hle : b ≤ N := by omega
    refine pq_s1 hB 0 (pc' := 4) (L' := [(0, .ref 185), (1, .int x1), (2, .int x2)]) (st' := [.int x2]) (I' := I) (J' := J) (by with_unfolding_all rfl) ?_
    refine pq_ifn hB rfl (fun h1 => ?_) (fun h1 => ?_)
    · rw [h1, cond_true] at hq
      exact pq_le (by omega) (hx0 hq.symm)
    · rw [h1, cond_false] at hq
      refine pq_s hB 17 (pc' := 3) (L' := [(2, .int (x2 + (-8))), (0, .ref 185), (1, .int x1)]) (st' := []) (I' := (tup (tup I 191 (((I 185 10)).toNatClampNeg) ((((x1 >>> (x2 &&& 31))).toInt8.toInt32).toInt8.toInt32)) 185 10 ((I 185 10) + 1))) (J' := J) (by with_unfolding_all rfl) ?_
      refine pq_perm (L := [(0, .ref 185), (1, .int x1), (2, .int (x2 + (-8)))]) (leqn_of ⟨rfl, rfl, rfl, trivial⟩ ⟨rfl, rfl, rfl, trivial⟩ ⟨rfl, rfl, rfl, trivial⟩) ?_
      exact f218_185_l3_pq hB k (by omega) b m (by omega) (by omega) hq hx0
-- LPModel.four
def f218_185 (N : Nat) (I : tI) (J : tJ) (a0 : Int32) : Option (Unit × tI × tJ) :=
  (match f218_185_l3 N N I J a0 24 with | none => none | some (y1_1, y1_2, I1, J1) => some ((), I1, J1))
set_option maxRecDepth 100000 in
theorem f218_185_pq {sc : List Int32} {B : xM} {N : Nat} {I : tI} {J : tJ} {a0 : Int32} (hB : kB pT B) : ∀ {X : Option (Unit × tI × tJ)}, f218_185 N I J a0 = X → pq sc B N (xt_218, 3, 0) 0 [(0, .ref 185), (1, .int a0)] [] I J (fun v I1 J1 => v = none ∧ X = some ((), I1, J1)) := by
  intro X hq
  unfold f218_185 at hq
  have hle : N ≤ N := Nat.le_refl N
  refine pq_s hB 2 (pc' := 3) (L' := [(2, .int 24), (0, .ref 185), (1, .int a0)]) (st' := []) (I' := I) (J' := J) (by with_unfolding_all rfl) ?_
  refine pq_perm (L := [(0, .ref 185), (1, .int a0), (2, .int 24)]) (leqn_of ⟨rfl, rfl, rfl, trivial⟩ ⟨rfl, rfl, rfl, trivial⟩ ⟨rfl, rfl, rfl, trivial⟩) ?_
  refine f218_185_l3_pq hB N (Nat.le_refl N) N N hle (Nat.le_refl N) rfl ?_
  intro y1_1 y1_2 I1 J1 hc1
  rw [hc1] at hq
  dsimp only at hq
  subst hq
  exact pq_2 (v := none) rfl rfl (by with_unfolding_all rfl) ⟨rfl, rfl⟩
-- LPModel.feed
def f217_185 (N : Nat) (I : tI) (J : tJ) (a0 : Int32) (a1 : Int32) (a2 : Int32) (a3 : Int32) (a4 : Int32) : Option (Int32 × tI × tJ) :=
  bif xcmp .le ((I 185 10) + 20) 900 then (match f218_185 N I J a0 with | none => none | some (_, I2, J2) => (match f218_185 N I2 J2 a1 with | none => none | some (_, I3, J3) => (match f218_185 N I3 J3 a2 with | none => none | some (_, I4, J4) => (match f218_185 N I4 J4 a3 with | none => none | some (_, I5, J5) => (match f218_185 N I5 J5 a4 with | none => none | some (_, I6, J6) => some ((I6 185 10), I6, J6)))))) else some ((-1), I, J)
set_option maxRecDepth 100000 in
theorem f217_185_pq {sc : List Int32} {B : xM} {N : Nat} {I : tI} {J : tJ} {a0 : Int32} {a1 : Int32} {a2 : Int32} {a3 : Int32} {a4 : Int32} (hB : kB pT B) : ∀ {X : Option (Int32 × tI × tJ)}, f217_185 N I J a0 a1 a2 a3 a4 = X → pq sc B N (xt_217, 6, 1) 0 [(0, .ref 185), (1, .int a0), (2, .int a1), (3, .int a2), (4, .int a3), (5, .int a4)] [] I J (fun v I1 J1 => ∃ a, v = some (.int a) ∧ X = some (a, I1, J1)) := by
  intro X hq
  unfold f217_185 at hq
  have hle : N ≤ N := Nat.le_refl N
  refine pq_s hB 5 (pc' := 10) (L' := [(0, .ref 185), (1, .int a0), (2, .int a1), (3, .int a2), (4, .int a3), (5, .int a4)]) (st' := [.int 900, .int ((I 185 10) + 20)]) (I' := I) (J' := J) (by with_unfolding_all rfl) ?_
  refine pq_icn hB rfl (fun h1 => ?_) (fun h1 => ?_)
  · rw [h1, cond_true] at hq
    refine pq_s hB 2 (pc' := 17) (L' := [(0, .ref 185), (1, .int a0), (2, .int a1), (3, .int a2), (4, .int a3), (5, .int a4)]) (st' := [.int a0, .ref 185]) (I' := I) (J' := J) (by with_unfolding_all rfl) ?_
    refine pq_1 rfl rfl rfl rfl (pq_le hle (f218_185_pq hB rfl)) ?_
    rintro _ I2 J2 ⟨rfl, hc2⟩
    rw [hc2] at hq
    dsimp only at hq
    refine pq_s hB 2 (pc' := 22) (L' := [(0, .ref 185), (1, .int a0), (2, .int a1), (3, .int a2), (4, .int a3), (5, .int a4)]) (st' := [.int a1, .ref 185]) (I' := I2) (J' := J2) (by with_unfolding_all rfl) ?_
    refine pq_1 rfl rfl rfl rfl (pq_le hle (f218_185_pq hB rfl)) ?_
    rintro _ I3 J3 ⟨rfl, hc3⟩
    rw [hc3] at hq
    dsimp only at hq
    refine pq_s hB 2 (pc' := 27) (L' := [(0, .ref 185), (1, .int a0), (2, .int a1), (3, .int a2), (4, .int a3), (5, .int a4)]) (st' := [.int a2, .ref 185]) (I' := I3) (J' := J3) (by with_unfolding_all rfl) ?_
    refine pq_1 rfl rfl rfl rfl (pq_le hle (f218_185_pq hB rfl)) ?_
    rintro _ I4 J4 ⟨rfl, hc4⟩
    rw [hc4] at hq
    dsimp only at hq
    refine pq_s hB 2 (pc' := 33) (L' := [(0, .ref 185), (1, .int a0), (2, .int a1), (3, .int a2), (4, .int a3), (5, .int a4)]) (st' := [.int a3, .ref 185]) (I' := I4) (J' := J4) (by with_unfolding_all rfl) ?_
    refine pq_1 rfl rfl rfl rfl (pq_le hle (f218_185_pq hB rfl)) ?_
    rintro _ I5 J5 ⟨rfl, hc5⟩
    rw [hc5] at hq
    dsimp only at hq
    refine pq_s hB 2 (pc' := 39) (L' := [(0, .ref 185), (1, .int a0), (2, .int a1), (3, .int a2), (4, .int a3), (5, .int a4)]) (st' := [.int a4, .ref 185]) (I' := I5) (J' := J5) (by with_unfolding_all rfl) ?_
    refine pq_1 rfl rfl rfl rfl (pq_le hle (f218_185_pq hB rfl)) ?_
    rintro _ I6 J6 ⟨rfl, hc6⟩
    rw [hc6] at hq
    dsimp only at hq
    refine pq_s hB 2 (pc' := 46) (L' := [(0, .ref 185), (1, .int a0), (2, .int a1), (3, .int a2), (4, .int a3), (5, .int a4)]) (st' := [.int (I6 185 10)]) (I' := I6) (J' := J6) (by with_unfolding_all rfl) ?_
    subst hq
    exact pq_2i (x := (I6 185 10)) rfl ⟨_, rfl, rfl⟩
  · rw [h1, cond_false] at hq
    refine pq_s hB 1 (pc' := 14) (L' := [(0, .ref 185), (1, .int a0), (2, .int a1), (3, .int a2), (4, .int a3), (5, .int a4)]) (st' := [.int (-1)]) (I' := I) (J' := J) (by with_unfolding_all rfl) ?_
    subst hq
    exact pq_2i (x := (-1)) rfl ⟨_, rfl, rfl⟩

/-! TO TAKE APART WHAT THE FUNCTIONS ABOVE PUT TOGETHER (here, where the matches are the same) -/
set_option maxRecDepth 100000 in
theorem obI {β : Type} {X : Option (Int32 × tI × tJ)} {k : Int32 → tI → tJ → Option β} {Y : β} (h : (match X with | none => none | some (v, I, J) => k v I J) = some Y) : ∃ v I J, X = some (v, I, J) ∧ k v I J = some Y := by
  cases X with
  | none => cases h
  | some q => exact ⟨q.1, q.2.1, q.2.2, rfl, h⟩
set_option maxRecDepth 100000 in
theorem obU {β : Type} {X : Option (Unit × tI × tJ)} {k : Unit → tI → tJ → Option β} {Y : β} (h : (match X with | none => none | some (v, I, J) => k v I J) = some Y) : ∃ v I J, X = some (v, I, J) ∧ k v I J = some Y := by
  cases X with
  | none => cases h
  | some q => exact ⟨q.1, q.2.1, q.2.2, rfl, h⟩
set_option maxRecDepth 100000 in
theorem obL {β : Type} {X : Option (Int64 × tI × tJ)} {k : Int64 → tI → tJ → Option β} {Y : β} (h : (match X with | none => none | some (v, I, J) => k v I J) = some Y) : ∃ v I J, X = some (v, I, J) ∧ k v I J = some Y := by
  cases X with
  | none => cases h
  | some q => exact ⟨q.1, q.2.1, q.2.2, rfl, h⟩
set_option maxRecDepth 100000 in
theorem pbI {β : Type} {q : Int32 × tI × tJ} {k : Int32 → tI → tJ → β} {Y : β} (h : (match q with | (v, I, J) => k v I J) = Y) : ∃ v I J, q = (v, I, J) ∧ k v I J = Y := ⟨q.1, q.2.1, q.2.2, rfl, h⟩
set_option maxRecDepth 100000 in
theorem pbL {β : Type} {q : Int64 × tI × tJ} {k : Int64 → tI → tJ → β} {Y : β} (h : (match q with | (v, I, J) => k v I J) = Y) : ∃ v I J, q = (v, I, J) ∧ k v I J = Y := ⟨q.1, q.2.1, q.2.2, rfl, h⟩
set_option maxRecDepth 100000 in
theorem pbU {β : Type} {q : Unit × tI × tJ} {k : Unit → tI → tJ → β} {Y : β} (h : (match q with | (v, I, J) => k v I J) = Y) : ∃ v I J, q = (v, I, J) ∧ k v I J = Y := ⟨q.1, q.2.1, q.2.2, rfl, h⟩
