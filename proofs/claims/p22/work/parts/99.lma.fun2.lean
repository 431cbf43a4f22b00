/-! PURE FUNCTIONS OF METHODS -/
-- LPModel.isPerson
def f254_185 (I : tI) (J : tJ) (a0 : Int32) : Int32 × tI × tJ :=
  bif xcmp .lt a0 0 then (0, I, J) else bif xcmp .ge a0 (I 186 2) then (0, I, J) else (1, I, J)
set_option maxRecDepth 100000 in
theorem f254_185_pq {sc : List Int32} {B : xM} {n : Nat} {I : tI} {J : tJ} {a0 : Int32} (hB : kB pT B) : ∀ {q : Int32 × tI × tJ}, f254_185 I J a0 = q → pq sc B n (xt_254, 2, 3) 0 [(0, .ref 185), (1, .int a0)] [] I J (fun v I1 J1 => v = some (.int q.1) ∧ I1 = q.2.1 ∧ J1 = q.2.2) := by
  intro q hq
  unfold f254_185 at hq
  refine pq_s hB 1 (pc' := 1) (L' := [(0, .ref 185), (1, .int a0)]) (st' := [.int a0]) (I' := I) (J' := J) (by with_unfolding_all rfl) ?_
  refine pq_ifn hB rfl (fun h1 => ?_) (fun h1 => ?_)
  · rw [h1, cond_true] at hq
    refine pq_s hB 1 (pc' := 19) (L' := [(0, .ref 185), (1, .int a0)]) (st' := [.int 0]) (I' := I) (J' := J) (by with_unfolding_all rfl) ?_
    subst hq
    exact pq_2i (x := 0) rfl ⟨rfl, rfl, rfl⟩
  · rw [h1, cond_false] at hq
    refine pq_s hB 5 (pc' := 11) (L' := [(0, .ref 185), (1, .int a0)]) (st' := [.int (I 186 2), .int a0]) (I' := I) (J' := J) (by with_unfolding_all rfl) ?_
    refine pq_icn hB rfl (fun h2 => ?_) (fun h2 => ?_)
    · rw [h2, cond_true] at hq
      refine pq_s hB 1 (pc' := 19) (L' := [(0, .ref 185), (1, .int a0)]) (st' := [.int 0]) (I' := I) (J' := J) (by with_unfolding_all rfl) ?_
      subst hq
      exact pq_2i (x := 0) rfl ⟨rfl, rfl, rfl⟩
    · rw [h2, cond_false] at hq
      refine pq_s hB 2 (pc' := 19) (L' := [(0, .ref 185), (1, .int a0)]) (st' := [.int 1]) (I' := I) (J' := J) (by with_unfolding_all rfl) ?_
      subst hq
      exact pq_2i (x := 1) rfl ⟨rfl, rfl, rfl⟩
-- LPModel.isFrom
def f216 (I : tI) (J : tJ) (a0 : Int64) (a1 : Int64) (a2 : Int64) : Int32 × tI × tJ :=
  bif xcmp .lt (lg_cmp a0 a1) 0 then (0, I, J) else bif xcmp .gt (lg_cmp a0 a2) 0 then (0, I, J) else (1, I, J)
set_option maxRecDepth 100000 in
theorem f216_pq {sc : List Int32} {B : xM} {n : Nat} {I : tI} {J : tJ} {a0 : Int64} {a1 : Int64} {a2 : Int64} (hB : kB pT B) : ∀ {q : Int32 × tI × tJ}, f216 I J a0 a1 a2 = q → pq sc B n (xt_216, 6, 3) 0 [(0, .long a0), (2, .long a1), (4, .long a2)] [] I J (fun v I1 J1 => v = some (.int q.1) ∧ I1 = q.2.1 ∧ J1 = q.2.2) := by
  intro q hq
  unfold f216 at hq
  refine pq_s hB 3 (pc' := 3) (L' := [(0, .long a0), (2, .long a1), (4, .long a2)]) (st' := [.int (lg_cmp a0 a1)]) (I' := I) (J' := J) (by with_unfolding_all rfl) ?_
  refine pq_ifn hB rfl (fun h1 => ?_) (fun h1 => ?_)
  · rw [h1, cond_true] at hq
    refine pq_s hB 1 (pc' := 18) (L' := [(0, .long a0), (2, .long a1), (4, .long a2)]) (st' := [.int 0]) (I' := I) (J' := J) (by with_unfolding_all rfl) ?_
    subst hq
    exact pq_2i (x := 0) rfl ⟨rfl, rfl, rfl⟩
  · rw [h1, cond_false] at hq
    refine pq_s hB 3 (pc' := 10) (L' := [(0, .long a0), (2, .long a1), (4, .long a2)]) (st' := [.int (lg_cmp a0 a2)]) (I' := I) (J' := J) (by with_unfolding_all rfl) ?_
    refine pq_ifn hB rfl (fun h2 => ?_) (fun h2 => ?_)
    · rw [h2, cond_true] at hq
      refine pq_s hB 1 (pc' := 18) (L' := [(0, .long a0), (2, .long a1), (4, .long a2)]) (st' := [.int 0]) (I' := I) (J' := J) (by with_unfolding_all rfl) ?_
      subst hq
      exact pq_2i (x := 0) rfl ⟨rfl, rfl, rfl⟩
    · rw [h2, cond_false] at hq
      refine pq_s hB 2 (pc' := 18) (L' := [(0, .long a0), (2, .long a1), (4, .long a2)]) (st' := [.int 1]) (I' := I) (J' := J) (by with_unfolding_all rfl) ?_
      subst hq
      exact pq_2i (x := 1) rfl ⟨rfl, rfl, rfl⟩
-- LPModel.isSpan
def f298 (I : tI) (J : tJ) (a0 : Int32) (a1 : Int32) : Int32 × tI × tJ :=
  (match f216 I J ((a0).toInt64) ((a1).toInt64) 200 with | (v1, I1, J1) => (v1, I1, J1))
set_option maxRecDepth 100000 in
theorem f298_pq {sc : List Int32} {B : xM} {n : Nat} {I : tI} {J : tJ} {a0 : Int32} {a1 : Int32} (hB : kB pT B) : ∀ {q : Int32 × tI × tJ}, f298 I J a0 a1 = q → pq sc B n (xt_298, 2, 3) 0 [(0, .int a0), (1, .int a1)] [] I J (fun v I1 J1 => v = some (.int q.1) ∧ I1 = q.2.1 ∧ J1 = q.2.2) := by
  intro q hq
  unfold f298 at hq
  refine pq_s hB 5 (pc' := 7) (L' := [(0, .int a0), (1, .int a1)]) (st' := [.long 200, .long (a1).toInt64, .long (a0).toInt64]) (I' := I) (J' := J) (by with_unfolding_all rfl) ?_
  generalize hc1 : f216 I J ((a0).toInt64) ((a1).toInt64) 200 = q1 at hq
  obtain ⟨v1, _, _⟩ := q1
  dsimp only at hq
  refine pq_1 rfl rfl rfl rfl (f216_pq hB hc1) ?_
  rintro _ I1 J1 ⟨rfl, rfl, rfl⟩
  subst hq
  exact pq_2i (x := v1) rfl ⟨rfl, rfl, rfl⟩
-- LPModel.keeps, the loop at 2, to [29]
def f296_185_l2 (N : Nat) : Nat → tI → tJ → Int32 → Int32 → Option (Int32 × Int32 × tI × tJ)
  | 0, _, _, _, _ => none
  | k + 1, I, J, x1, x2 =>
    bif xcmp .ge x2 252 then some (x1, x2, I, J) else f296_185_l2 N k (tup I 186 (((x1 + x2)).toNatClampNeg) (I 186 (x2).toNatClampNeg)) J x1 (x2 + 1)
set_option maxRecDepth 100000 in
theorem f296_185_l2_pq {sc : List Int32} {B : xM} {N : Nat} {P : Option Value → tI → tJ → Prop} (hB : kB pT B) : ∀ (k : Nat), k ≤ N → ∀ (b m : Nat), b ≤ k → b ≤ m → ∀ {I : tI} {J : tJ} {x1 : Int32} {x2 : Int32} {Y : Option (Int32 × Int32 × tI × tJ)}, f296_185_l2 N k I J x1 x2 = Y → (∀ {y1 : Int32} {y2 : Int32} {I1 : tI} {J1 : tJ}, Y = some (y1, y2, I1, J1) → pq sc B m (xt_296, 3, 0) 29 [(0, .ref 185), (1, .int y1), (2, .int y2)] [] I1 J1 P) → pq sc B b (xt_296, 3, 0) 2 [(0, .ref 185), (1, .int x1), (2, .int x2)] [] I J P
  | 0, _, b, _, hb, _, _, _, _, _, _, _, _ => by
    have e : b = 0 := by omega
    subst e
    exact pq_zero
  | _ + 1, _, 0, _, _, _, _, _, _, _, _, _, _ => pq_zero
  | k + 1, hk, b + 1, m, hb, hm, I, J, x1, x2, Y, hq, hx0 => by
    unfold f296_185_l2 at hq
    have hle : b ≤ N := by omega
    refine pq_s1 hB 1 (pc' := 6) (L' := [(0, .ref 185), (1, .int x1), (2, .int x2)]) (st' := [.int 252, .int x2]) (I' := I) (J' := J) (by with_unfolding_all rfl) ?_
    refine pq_icn hB rfl (fun h1 => ?_) (fun h1 => ?_)
    · rw [h1, cond_true] at hq
      exact pq_le (by omega) (hx0 hq.symm)
    · rw [h1, cond_false] at hq
      refine pq_s hB 12 (pc' := 2) (L' := [(2, .int (x2 + 1)), (0, .ref 185), (1, .int x1)]) (st' := []) (I' := (tup I 186 (((x1 + x2)).toNatClampNeg) (I 186 (x2).toNatClampNeg))) (J' := J) (by with_unfolding_all rfl) ?_
      refine pq_perm (L := [(0, .ref 185), (1, .int x1), (2, .int (x2 + 1))]) (leqn_of ⟨rfl, rfl, rfl, trivial⟩ ⟨rfl, rfl, rfl, trivial⟩ ⟨rfl, rfl, rfl, trivial⟩) ?_
      exact f296_185_l2_pq hB k (by omega) b m (by omega) (by omega) hq hx0
-- LPModel.keeps
def f296_185 (N : Nat) (I : tI) (J : tJ) (a0 : Int32) : Option (Unit × tI × tJ) :=
  (match f296_185_l2 N N I J a0 0 with | none => none | some (y1_1, y1_2, I1, J1) => some ((), I1, J1))
set_option maxRecDepth 100000 in
theorem f296_185_pq {sc : List Int32} {B : xM} {N : Nat} {I : tI} {J : tJ} {a0 : Int32} (hB : kB pT B) : ∀ {X : Option (Unit × tI × tJ)}, f296_185 N I J a0 = X → pq sc B N (xt_296, 3, 0) 0 [(0, .ref 185), (1, .int a0)] [] I J (fun v I1 J1 => v = none ∧ X = some ((), I1, J1)) := by
  intro X hq
  unfold f296_185 at hq
  have hle : N ≤ N := Nat.le_refl N
  refine pq_s hB 2 (pc' := 2) (L' := [(2, .int 0), (0, .ref 185), (1, .int a0)]) (st' := []) (I' := I) (J' := J) (by with_unfolding_all rfl) ?_
  refine pq_perm (L := [(0, .ref 185), (1, .int a0), (2, .int 0)]) (leqn_of ⟨rfl, rfl, rfl, trivial⟩ ⟨rfl, rfl, rfl, trivial⟩ ⟨rfl, rfl, rfl, trivial⟩) ?_
  refine f296_185_l2_pq hB N (Nat.le_refl N) N N hle (Nat.le_refl N) rfl ?_
  intro y1_1 y1_2 I1 J1 hc1
  rw [hc1] at hq
  dsimp only at hq
  subst hq
  exact pq_2 (v := none) rfl rfl (by with_unfolding_all rfl) ⟨rfl, rfl⟩
-- LPModel.personRow
def f251 (I : tI) (J : tJ) (a0 : Int32) : Int32 × tI × tJ :=
  ((40 + (14 * a0)), I, J)
set_option maxRecDepth 100000 in
theorem f251_pq {sc : List Int32} {B : xM} {n : Nat} {I : tI} {J : tJ} {a0 : Int32} (hB : kB pT B) : ∀ {q : Int32 × tI × tJ}, f251 I J a0 = q → pq sc B n (xt_251, 1, 1) 0 [(0, .int a0)] [] I J (fun v I1 J1 => v = some (.int q.1) ∧ I1 = q.2.1 ∧ J1 = q.2.2) := by
  intro q hq
  unfold f251 at hq
  refine pq_s hB 5 (pc' := 7) (L' := [(0, .int a0)]) (st' := [.int (40 + (14 * a0))]) (I' := I) (J' := J) (by with_unfolding_all rfl) ?_
  subst hq
  exact pq_2i (x := (40 + (14 * a0))) rfl ⟨rfl, rfl, rfl⟩
-- LPModel.isCell
def f253_185 (I : tI) (J : tJ) (a0 : Int32) (a1 : Int32) : Int32 × tI × tJ :=
  bif xcmp .lt a0 0 then (0, I, J) else bif xcmp .ge a0 (I 186 0) then (0, I, J) else bif xcmp .lt a1 0 then (0, I, J) else bif xcmp .ge a1 (I 186 1) then (0, I, J) else (1, I, J)
set_option maxRecDepth 100000 in
theorem f253_185_pq {sc : List Int32} {B : xM} {n : Nat} {I : tI} {J : tJ} {a0 : Int32} {a1 : Int32} (hB : kB pT B) : ∀ {q : Int32 × tI × tJ}, f253_185 I J a0 a1 = q → pq sc B n (xt_253, 3, 3) 0 [(0, .ref 185), (1, .int a0), (2, .int a1)] [] I J (fun v I1 J1 => v = some (.int q.1) ∧ I1 = q.2.1 ∧ J1 = q.2.2) := by
  intro q hq
  unfold f253_185 at hq
  refine pq_s hB 1 (pc' := 1) (L' := [(0, .ref 185), (1, .int a0), (2, .int a1)]) (st' := [.int a0]) (I' := I) (J' := J) (by with_unfolding_all rfl) ?_
  refine pq_ifn hB rfl (fun h1 => ?_) (fun h1 => ?_)
  · rw [h1, cond_true] at hq
    refine pq_s hB 1 (pc' := 33) (L' := [(0, .ref 185), (1, .int a0), (2, .int a1)]) (st' := [.int 0]) (I' := I) (J' := J) (by with_unfolding_all rfl) ?_
    subst hq
    exact pq_2i (x := 0) rfl ⟨rfl, rfl, rfl⟩
  · rw [h1, cond_false] at hq
    refine pq_s hB 5 (pc' := 11) (L' := [(0, .ref 185), (1, .int a0), (2, .int a1)]) (st' := [.int (I 186 0), .int a0]) (I' := I) (J' := J) (by with_unfolding_all rfl) ?_
    refine pq_icn hB rfl (fun h2 => ?_) (fun h2 => ?_)
    · rw [h2, cond_true] at hq
      refine pq_s hB 1 (pc' := 33) (L' := [(0, .ref 185), (1, .int a0), (2, .int a1)]) (st' := [.int 0]) (I' := I) (J' := J) (by with_unfolding_all rfl) ?_
      subst hq
      exact pq_2i (x := 0) rfl ⟨rfl, rfl, rfl⟩
    · rw [h2, cond_false] at hq
      refine pq_s hB 1 (pc' := 15) (L' := [(0, .ref 185), (1, .int a0), (2, .int a1)]) (st' := [.int a1]) (I' := I) (J' := J) (by with_unfolding_all rfl) ?_
      refine pq_ifn hB rfl (fun h3 => ?_) (fun h3 => ?_)
      · rw [h3, cond_true] at hq
        refine pq_s hB 1 (pc' := 33) (L' := [(0, .ref 185), (1, .int a0), (2, .int a1)]) (st' := [.int 0]) (I' := I) (J' := J) (by with_unfolding_all rfl) ?_
        subst hq
        exact pq_2i (x := 0) rfl ⟨rfl, rfl, rfl⟩
      · rw [h3, cond_false] at hq
        refine pq_s hB 5 (pc' := 25) (L' := [(0, .ref 185), (1, .int a0), (2, .int a1)]) (st' := [.int (I 186 1), .int a1]) (I' := I) (J' := J) (by with_unfolding_all rfl) ?_
        refine pq_icn hB rfl (fun h4 => ?_) (fun h4 => ?_)
        · rw [h4, cond_true] at hq
          refine pq_s hB 1 (pc' := 33) (L' := [(0, .ref 185), (1, .int a0), (2, .int a1)]) (st' := [.int 0]) (I' := I) (J' := J) (by with_unfolding_all rfl) ?_
          subst hq
          exact pq_2i (x := 0) rfl ⟨rfl, rfl, rfl⟩
        · rw [h4, cond_false] at hq
          refine pq_s hB 2 (pc' := 33) (L' := [(0, .ref 185), (1, .int a0), (2, .int a1)]) (st' := [.int 1]) (I' := I) (J' := J) (by with_unfolding_all rfl) ?_
          subst hq
          exact pq_2i (x := 1) rfl ⟨rfl, rfl, rfl⟩
-- LPModel.isWall
def f262_185 (I : tI) (J : tJ) (a0 : Int32) : Int32 × tI × tJ :=
  bif xcmp .ne (I 186 ((10 + a0)).toNatClampNeg) 1 then (0, I, J) else (1, I, J)
set_option maxRecDepth 100000 in
theorem f262_185_pq {sc : List Int32} {B : xM} {n : Nat} {I : tI} {J : tJ} {a0 : Int32} (hB : kB pT B) : ∀ {q : Int32 × tI × tJ}, f262_185 I J a0 = q → pq sc B n (xt_262, 2, 3) 0 [(0, .ref 185), (1, .int a0)] [] I J (fun v I1 J1 => v = some (.int q.1) ∧ I1 = q.2.1 ∧ J1 = q.2.2) := by
  intro q hq
  unfold f262_185 at hq
  refine pq_s hB 7 (pc' := 10) (L' := [(0, .ref 185), (1, .int a0)]) (st' := [.int 1, .int (I 186 ((10 + a0)).toNatClampNeg)]) (I' := I) (J' := J) (by with_unfolding_all rfl) ?_
  refine pq_icn hB rfl (fun h1 => ?_) (fun h1 => ?_)
  · rw [h1, cond_true] at hq
    refine pq_s hB 1 (pc' := 18) (L' := [(0, .ref 185), (1, .int a0)]) (st' := [.int 0]) (I' := I) (J' := J) (by with_unfolding_all rfl) ?_
    subst hq
    exact pq_2i (x := 0) rfl ⟨rfl, rfl, rfl⟩
  · rw [h1, cond_false] at hq
    refine pq_s hB 2 (pc' := 18) (L' := [(0, .ref 185), (1, .int a0)]) (st' := [.int 1]) (I' := I) (J' := J) (by with_unfolding_all rfl) ?_
    subst hq
    exact pq_2i (x := 1) rfl ⟨rfl, rfl, rfl⟩
-- LPModel.stepFrom, from 47 on
def f282_185_j47 (I : tI) (J : tJ) (x1 : Int32) (x3 : Int32) (s0 : Int32) (s1 : Int32) : Int32 × tI × tJ :=
  (match f253_185 I J x3 (s1 + s0) with | (v5, I5, J5) => bif xcmp .eq v5 0 then (x1, I5, J5) else (match f262_185 I5 J5 ((6 * (s1 + s0)) + x3) with | (v7, I7, J7) => bif xcmp .ne v7 0 then (x1, I7, J7) else (((6 * (s1 + s0)) + x3), I7, J7)))
set_option maxRecDepth 100000 in
theorem f282_185_j47_pq {sc : List Int32} {B : xM} {n : Nat} {I : tI} {J : tJ} {x1 : Int32} {x3 : Int32} {s0 : Int32} {s1 : Int32} (hB : kB pT B) : ∀ {q : Int32 × tI × tJ}, f282_185_j47 I J x1 x3 s0 s1 = q → pq sc B n (xt_282, 5, 1) 47 [(0, .ref 185), (1, .int x1), (3, .int x3)] [.int s0, .int s1] I J (fun v I1 J1 => v = some (.int q.1) ∧ I1 = q.2.1 ∧ J1 = q.2.2) := by
  intro q hq
  unfold f282_185_j47 at hq
  refine pq_s hB 5 (pc' := 54) (L' := [(4, .int (s1 + s0)), (0, .ref 185), (1, .int x1), (3, .int x3)]) (st' := [.int (s1 + s0), .int x3, .ref 185]) (I' := I) (J' := J) (by with_unfolding_all rfl) ?_
  generalize hc5 : f253_185 I J x3 (s1 + s0) = q5 at hq
  obtain ⟨v5, _, _⟩ := q5
  dsimp only at hq
  refine pq_1 rfl rfl rfl rfl (f253_185_pq hB hc5) ?_
  rintro _ I5 J5 ⟨rfl, rfl, rfl⟩
  refine pq_ifn hB rfl (fun h6 => ?_) (fun h6 => ?_)
  · rw [h6, cond_true] at hq
    refine pq_s hB 1 (pc' := 85) (L' := [(4, .int (s1 + s0)), (0, .ref 185), (1, .int x1), (3, .int x3)]) (st' := [.int x1]) (I' := I5) (J' := J5) (by with_unfolding_all rfl) ?_
    subst hq
    exact pq_2i (x := x1) rfl ⟨rfl, rfl, rfl⟩
  · rw [h6, cond_false] at hq
    refine pq_s hB 6 (pc' := 68) (L' := [(4, .int (s1 + s0)), (0, .ref 185), (1, .int x1), (3, .int x3)]) (st' := [.int ((6 * (s1 + s0)) + x3), .ref 185]) (I' := I5) (J' := J5) (by with_unfolding_all rfl) ?_
    generalize hc7 : f262_185 I5 J5 ((6 * (s1 + s0)) + x3) = q7 at hq
    obtain ⟨v7, _, _⟩ := q7
    dsimp only at hq
    refine pq_1 rfl rfl rfl rfl (f262_185_pq hB hc7) ?_
    rintro _ I7 J7 ⟨rfl, rfl, rfl⟩
    refine pq_ifn hB rfl (fun h8 => ?_) (fun h8 => ?_)
    · rw [h8, cond_true] at hq
      refine pq_s hB 1 (pc' := 85) (L' := [(4, .int (s1 + s0)), (0, .ref 185), (1, .int x1), (3, .int x3)]) (st' := [.int x1]) (I' := I7) (J' := J7) (by with_unfolding_all rfl) ?_
      subst hq
      exact pq_2i (x := x1) rfl ⟨rfl, rfl, rfl⟩
    · rw [h8, cond_false] at hq
      refine pq_s hB 6 (pc' := 85) (L' := [(4, .int (s1 + s0)), (0, .ref 185), (1, .int x1), (3, .int x3)]) (st' := [.int ((6 * (s1 + s0)) + x3)]) (I' := I7) (J' := J7) (by with_unfolding_all rfl) ?_
      subst hq
      exact pq_2i (x := ((6 * (s1 + s0)) + x3)) rfl ⟨rfl, rfl, rfl⟩
-- LPModel.stepFrom, from 22 on
def f282_185_j22 (I : tI) (J : tJ) (x1 : Int32) (x2 : Int32) (s0 : Int32) (s1 : Int32) : Int32 × tI × tJ :=
  bif xcmp .ne x2 1 then (bif xcmp .ne x2 3 then f282_185_j47 I J x1 (s1 + s0) 0 (x1 / 6) else f282_185_j47 I J x1 (s1 + s0) (-1) (x1 / 6)) else f282_185_j47 I J x1 (s1 + s0) 1 (x1 / 6)
set_option maxRecDepth 100000 in
theorem f282_185_j22_pq {sc : List Int32} {B : xM} {n : Nat} {I : tI} {J : tJ} {x1 : Int32} {x2 : Int32} {s0 : Int32} {s1 : Int32} (hB : kB pT B) : ∀ {q : Int32 × tI × tJ}, f282_185_j22 I J x1 x2 s0 s1 = q → pq sc B n (xt_282, 5, 1) 22 [(0, .ref 185), (1, .int x1), (2, .int x2)] [.int s0, .int s1] I J (fun v I1 J1 => v = some (.int q.1) ∧ I1 = q.2.1 ∧ J1 = q.2.2) := by
  intro q hq
  unfold f282_185_j22 at hq
  refine pq_s hB 7 (pc' := 30) (L' := [(3, .int (s1 + s0)), (0, .ref 185), (1, .int x1), (2, .int x2)]) (st' := [.int 1, .int x2, .int (x1 / 6)]) (I' := I) (J' := J) (by with_unfolding_all rfl) ?_
  refine pq_icn hB rfl (fun h3 => ?_) (fun h3 => ?_)
  · rw [h3, cond_true] at hq
    refine pq_s hB 2 (pc' := 39) (L' := [(3, .int (s1 + s0)), (0, .ref 185), (1, .int x1), (2, .int x2)]) (st' := [.int 3, .int x2, .int (x1 / 6)]) (I' := I) (J' := J) (by with_unfolding_all rfl) ?_
    refine pq_icn hB rfl (fun h4 => ?_) (fun h4 => ?_)
    · rw [h4, cond_true] at hq
      refine pq_s hB 1 (pc' := 47) (L' := [(3, .int (s1 + s0)), (0, .ref 185), (1, .int x1), (2, .int x2)]) (st' := [.int 0, .int (x1 / 6)]) (I' := I) (J' := J) (by with_unfolding_all rfl) ?_
      refine pq_perm (L := [(0, .ref 185), (1, .int x1), (3, .int (s1 + s0))]) (leqn_of ⟨rfl, rfl, rfl, trivial⟩ ⟨rfl, rfl, rfl, trivial⟩ ⟨rfl, rfl, rfl, rfl, trivial⟩) ?_
      exact f282_185_j47_pq hB hq
    · rw [h4, cond_false] at hq
      refine pq_s hB 2 (pc' := 47) (L' := [(3, .int (s1 + s0)), (0, .ref 185), (1, .int x1), (2, .int x2)]) (st' := [.int (-1), .int (x1 / 6)]) (I' := I) (J' := J) (by with_unfolding_all rfl) ?_
      refine pq_perm (L := [(0, .ref 185), (1, .int x1), (3, .int (s1 + s0))]) (leqn_of ⟨rfl, rfl, rfl, trivial⟩ ⟨rfl, rfl, rfl, trivial⟩ ⟨rfl, rfl, rfl, rfl, trivial⟩) ?_
      exact f282_185_j47_pq hB hq
  · rw [h3, cond_false] at hq
    refine pq_s hB 2 (pc' := 47) (L' := [(3, .int (s1 + s0)), (0, .ref 185), (1, .int x1), (2, .int x2)]) (st' := [.int 1, .int (x1 / 6)]) (I' := I) (J' := J) (by with_unfolding_all rfl) ?_
    refine pq_perm (L := [(0, .ref 185), (1, .int x1), (3, .int (s1 + s0))]) (leqn_of ⟨rfl, rfl, rfl, trivial⟩ ⟨rfl, rfl, rfl, trivial⟩ ⟨rfl, rfl, rfl, rfl, trivial⟩) ?_
    exact f282_185_j47_pq hB hq
-- LPModel.stepFrom
def f282_185 (I : tI) (J : tJ) (a0 : Int32) (a1 : Int32) : Int32 × tI × tJ :=
  bif xcmp .ne a1 0 then (bif xcmp .ne a1 2 then f282_185_j22 I J a0 a1 0 (a0 - a0 / 6 * 6) else f282_185_j22 I J a0 a1 (-1) (a0 - a0 / 6 * 6)) else f282_185_j22 I J a0 a1 1 (a0 - a0 / 6 * 6)
set_option maxRecDepth 100000 in
theorem f282_185_pq {sc : List Int32} {B : xM} {n : Nat} {I : tI} {J : tJ} {a0 : Int32} {a1 : Int32} (hB : kB pT B) : ∀ {q : Int32 × tI × tJ}, f282_185 I J a0 a1 = q → pq sc B n (xt_282, 5, 1) 0 [(0, .ref 185), (1, .int a0), (2, .int a1)] [] I J (fun v I1 J1 => v = some (.int q.1) ∧ I1 = q.2.1 ∧ J1 = q.2.2) := by
  intro q hq
  unfold f282_185 at hq
  refine pq_s hB 4 (pc' := 5) (L' := [(0, .ref 185), (1, .int a0), (2, .int a1)]) (st' := [.int a1, .int (a0 - a0 / 6 * 6)]) (I' := I) (J' := J) (by with_unfolding_all rfl) ?_
  refine pq_ifn hB rfl (fun h1 => ?_) (fun h1 => ?_)
  · rw [h1, cond_true] at hq
    refine pq_s hB 2 (pc' := 14) (L' := [(0, .ref 185), (1, .int a0), (2, .int a1)]) (st' := [.int 2, .int a1, .int (a0 - a0 / 6 * 6)]) (I' := I) (J' := J) (by with_unfolding_all rfl) ?_
    refine pq_icn hB rfl (fun h2 => ?_) (fun h2 => ?_)
    · rw [h2, cond_true] at hq
      refine pq_s hB 1 (pc' := 22) (L' := [(0, .ref 185), (1, .int a0), (2, .int a1)]) (st' := [.int 0, .int (a0 - a0 / 6 * 6)]) (I' := I) (J' := J) (by with_unfolding_all rfl) ?_
      exact f282_185_j22_pq hB hq
    · rw [h2, cond_false] at hq
      refine pq_s hB 2 (pc' := 22) (L' := [(0, .ref 185), (1, .int a0), (2, .int a1)]) (st' := [.int (-1), .int (a0 - a0 / 6 * 6)]) (I' := I) (J' := J) (by with_unfolding_all rfl) ?_
      exact f282_185_j22_pq hB hq
  · rw [h1, cond_false] at hq
    refine pq_s hB 2 (pc' := 22) (L' := [(0, .ref 185), (1, .int a0), (2, .int a1)]) (st' := [.int 1, .int (a0 - a0 / 6 * 6)]) (I' := I) (J' := J) (by with_unfolding_all rfl) ?_
    exact f282_185_j22_pq hB hq
-- LPModel.personOf
def f260_185 (I : tI) (J : tJ) (a0 : Int32) (a1 : Int32) : Int32 × tI × tJ :=
  (match f251 I J a0 with | (v1, I1, J1) => ((I1 186 ((v1 + a1)).toNatClampNeg), I1, J1))
set_option maxRecDepth 100000 in
theorem f260_185_pq {sc : List Int32} {B : xM} {n : Nat} {I : tI} {J : tJ} {a0 : Int32} {a1 : Int32} (hB : kB pT B) : ∀ {q : Int32 × tI × tJ}, f260_185 I J a0 a1 = q → pq sc B n (xt_260, 3, 1) 0 [(0, .ref 185), (1, .int a0), (2, .int a1)] [] I J (fun v I1 J1 => v = some (.int q.1) ∧ I1 = q.2.1 ∧ J1 = q.2.2) := by
  intro q hq
  unfold f260_185 at hq
  refine pq_s hB 3 (pc' := 5) (L' := [(0, .ref 185), (1, .int a0), (2, .int a1)]) (st' := [.int a0, .ref 186]) (I' := I) (J' := J) (by with_unfolding_all rfl) ?_
  generalize hc1 : f251 I J a0 = q1 at hq
  obtain ⟨v1, _, _⟩ := q1
  dsimp only at hq
  refine pq_1 rfl rfl rfl rfl (f251_pq hB hc1) ?_
  rintro _ I1 J1 ⟨rfl, rfl, rfl⟩
  refine pq_s hB 3 (pc' := 11) (L' := [(0, .ref 185), (1, .int a0), (2, .int a1)]) (st' := [.int (I1 186 ((v1 + a1)).toNatClampNeg)]) (I' := I1) (J' := J1) (by with_unfolding_all rfl) ?_
  subst hq
  exact pq_2i (x := (I1 186 ((v1 + a1)).toNatClampNeg)) rfl ⟨rfl, rfl, rfl⟩
-- LPModel.isHere
def f261_185 (I : tI) (J : tJ) (a0 : Int32) : Int32 × tI × tJ :=
  (match f260_185 I J a0 4 with | (v1, I1, J1) => bif xcmp .ne v1 1 then (0, I1, J1) else (1, I1, J1))
set_option maxRecDepth 100000 in
theorem f261_185_pq {sc : List Int32} {B : xM} {n : Nat} {I : tI} {J : tJ} {a0 : Int32} (hB : kB pT B) : ∀ {q : Int32 × tI × tJ}, f261_185 I J a0 = q → pq sc B n (xt_261, 2, 3) 0 [(0, .ref 185), (1, .int a0)] [] I J (fun v I1 J1 => v = some (.int q.1) ∧ I1 = q.2.1 ∧ J1 = q.2.2) := by
  intro q hq
  unfold f261_185 at hq
  refine pq_s hB 3 (pc' := 3) (L' := [(0, .ref 185), (1, .int a0)]) (st' := [.int 4, .int a0, .ref 185]) (I' := I) (J' := J) (by with_unfolding_all rfl) ?_
  generalize hc1 : f260_185 I J a0 4 = q1 at hq
  obtain ⟨v1, _, _⟩ := q1
  dsimp only at hq
  refine pq_1 rfl rfl rfl rfl (f260_185_pq hB hc1) ?_
  rintro _ I1 J1 ⟨rfl, rfl, rfl⟩
  refine pq_s hB 1 (pc' := 7) (L' := [(0, .ref 185), (1, .int a0)]) (st' := [.int 1, .int v1]) (I' := I1) (J' := J1) (by with_unfolding_all rfl) ?_
  refine pq_icn hB rfl (fun h2 => ?_) (fun h2 => ?_)
  · rw [h2, cond_true] at hq
    refine pq_s hB 1 (pc' := 15) (L' := [(0, .ref 185), (1, .int a0)]) (st' := [.int 0]) (I' := I1) (J' := J1) (by with_unfolding_all rfl) ?_
    subst hq
    exact pq_2i (x := 0) rfl ⟨rfl, rfl, rfl⟩
  · rw [h2, cond_false] at hq
    refine pq_s hB 2 (pc' := 15) (L' := [(0, .ref 185), (1, .int a0)]) (st' := [.int 1]) (I' := I1) (J' := J1) (by with_unfolding_all rfl) ?_
    subst hq
    exact pq_2i (x := 1) rfl ⟨rfl, rfl, rfl⟩
-- LPModel.whoAt, the loop at 2, to [38, 30]
def f264_185_l2 (N : Nat) : Nat → tI → tJ → Int32 → Int32 → Option (Nat × Int32 × Int32 × tI × tJ)
  | 0, _, _, _, _ => none
  | k + 1, I, J, x1, x2 =>
    bif xcmp .ge x2 (I 186 2) then some (0, x1, x2, I, J) else (match f261_185 I J x2 with | (v2, I2, J2) => bif xcmp .eq v2 0 then f264_185_l2 N k I2 J2 x1 (x2 + 1) else (match f260_185 I2 J2 x2 5 with | (v4, I4, J4) => bif xcmp .ne v4 x1 then f264_185_l2 N k I4 J4 x1 (x2 + 1) else some (1, x1, x2, I4, J4)))
set_option maxRecDepth 100000 in
theorem f264_185_l2_pq {sc : List Int32} {B : xM} {N : Nat} {P : Option Value → tI → tJ → Prop} (hB : kB pT B) : ∀ (k : Nat), k ≤ N → ∀ (b m : Nat), b ≤ k → b ≤ m → ∀ {I : tI} {J : tJ} {x1 : Int32} {x2 : Int32} {Y : Option (Nat × Int32 × Int32 × tI × tJ)}, f264_185_l2 N k I J x1 x2 = Y → (∀ {y1 : Int32} {y2 : Int32} {I1 : tI} {J1 : tJ}, Y = some (0, y1, y2, I1, J1) → pq sc B m (xt_264, 3, 1) 38 [(0, .ref 185), (1, .int y1), (2, .int y2)] [] I1 J1 P) → (∀ {y1 : Int32} {y2 : Int32} {I1 : tI} {J1 : tJ}, Y = some (1, y1, y2, I1, J1) → pq sc B m (xt_264, 3, 1) 30 [(0, .ref 185), (1, .int y1), (2, .int y2)] [] I1 J1 P) → pq sc B b (xt_264, 3, 1) 2 [(0, .ref 185), (1, .int x1), (2, .int x2)] [] I J P
  | 0, _, b, _, hb, _, _, _, _, _, _, _, _, _ => by
    have e : b = 0 := by omega
    subst e
    exact pq_zero
  | _ + 1, _, 0, _, _, _, _, _, _, _, _, _, _, _ => pq_zero
  | k + 1, hk, b + 1, m, hb, hm, I, J, x1, x2, Y, hq, hx0, hx1 => by
    unfold f264_185_l2 at hq
    have hle : b ≤ N := by omega
    refine pq_s1 hB 4 (pc' := 9) (L' := [(0, .ref 185), (1, .int x1), (2, .int x2)]) (st' := [.int (I 186 2), .int x2]) (I' := I) (J' := J) (by with_unfolding_all rfl) ?_
    refine pq_icn hB rfl (fun h1 => ?_) (fun h1 => ?_)
    · rw [h1, cond_true] at hq
      exact pq_le (by omega) (hx0 hq.symm)
    · rw [h1, cond_false] at hq
      refine pq_s hB 2 (pc' := 14) (L' := [(0, .ref 185), (1, .int x1), (2, .int x2)]) (st' := [.int x2, .ref 185]) (I' := I) (J' := J) (by with_unfolding_all rfl) ?_
      generalize hc2 : f261_185 I J x2 = q2 at hq
      obtain ⟨v2, _, _⟩ := q2
      dsimp only at hq
      refine pq_1 rfl rfl rfl rfl (f261_185_pq hB hc2) ?_
      rintro _ I2 J2 ⟨rfl, rfl, rfl⟩
      refine pq_ifn hB rfl (fun h3 => ?_) (fun h3 => ?_)
      · rw [h3, cond_true] at hq
        refine pq_s hB 2 (pc' := 2) (L' := [(2, .int (x2 + 1)), (0, .ref 185), (1, .int x1)]) (st' := []) (I' := I2) (J' := J2) (by with_unfolding_all rfl) ?_
        refine pq_perm (L := [(0, .ref 185), (1, .int x1), (2, .int (x2 + 1))]) (leqn_of ⟨rfl, rfl, rfl, trivial⟩ ⟨rfl, rfl, rfl, trivial⟩ ⟨rfl, rfl, rfl, trivial⟩) ?_
        exact f264_185_l2_pq hB k (by omega) b m (by omega) (by omega) hq hx0 hx1
      · rw [h3, cond_false] at hq
        refine pq_s hB 3 (pc' := 23) (L' := [(0, .ref 185), (1, .int x1), (2, .int x2)]) (st' := [.int 5, .int x2, .ref 185]) (I' := I2) (J' := J2) (by with_unfolding_all rfl) ?_
        generalize hc4 : f260_185 I2 J2 x2 5 = q4 at hq
        obtain ⟨v4, _, _⟩ := q4
        dsimp only at hq
        refine pq_1 rfl rfl rfl rfl (f260_185_pq hB hc4) ?_
        rintro _ I4 J4 ⟨rfl, rfl, rfl⟩
        refine pq_s hB 1 (pc' := 27) (L' := [(0, .ref 185), (1, .int x1), (2, .int x2)]) (st' := [.int x1, .int v4]) (I' := I4) (J' := J4) (by with_unfolding_all rfl) ?_
        refine pq_icn hB rfl (fun h5 => ?_) (fun h5 => ?_)
        · rw [h5, cond_true] at hq
          refine pq_s hB 2 (pc' := 2) (L' := [(2, .int (x2 + 1)), (0, .ref 185), (1, .int x1)]) (st' := []) (I' := I4) (J' := J4) (by with_unfolding_all rfl) ?_
          refine pq_perm (L := [(0, .ref 185), (1, .int x1), (2, .int (x2 + 1))]) (leqn_of ⟨rfl, rfl, rfl, trivial⟩ ⟨rfl, rfl, rfl, trivial⟩ ⟨rfl, rfl, rfl, trivial⟩) ?_
          exact f264_185_l2_pq hB k (by omega) b m (by omega) (by omega) hq hx0 hx1
        · rw [h5, cond_false] at hq
          exact pq_le (by omega) (hx1 hq.symm)
-- LPModel.whoAt
def f264_185 (N : Nat) (I : tI) (J : tJ) (a0 : Int32) : Option (Int32 × tI × tJ) :=
  (match f264_185_l2 N N I J a0 0 with | none => none | some (k1, y1_1, y1_2, I1, J1) => bif Nat.beq k1 0 then (some ((-1), I1, J1)) else some (y1_2, I1, J1))
set_option maxRecDepth 100000 in
theorem f264_185_pq {sc : List Int32} {B : xM} {N : Nat} {I : tI} {J : tJ} {a0 : Int32} (hB : kB pT B) : ∀ {X : Option (Int32 × tI × tJ)}, f264_185 N I J a0 = X → pq sc B N (xt_264, 3, 1) 0 [(0, .ref 185), (1, .int a0)] [] I J (fun v I1 J1 => ∃ a, v = some (.int a) ∧ X = some (a, I1, J1)) := by
  intro X hq
  unfold f264_185 at hq
  have hle : N ≤ N := Nat.le_refl N
  refine pq_s hB 2 (pc' := 2) (L' := [(2, .int 0), (0, .ref 185), (1, .int a0)]) (st' := []) (I' := I) (J' := J) (by with_unfolding_all rfl) ?_
  refine pq_perm (L := [(0, .ref 185), (1, .int a0), (2, .int 0)]) (leqn_of ⟨rfl, rfl, rfl, trivial⟩ ⟨rfl, rfl, rfl, trivial⟩ ⟨rfl, rfl, rfl, trivial⟩) ?_
  refine f264_185_l2_pq hB N (Nat.le_refl N) N N hle (Nat.le_refl N) rfl ?_ ?_
  ·
    intro y1_1 y1_2 I1 J1 hc1
    rw [hc1] at hq
    dsimp only at hq
    rw [show Nat.beq 0 0 = true from rfl, cond_true] at hq
    refine pq_s hB 1 (pc' := 39) (L' := [(0, .ref 185), (1, .int y1_1), (2, .int y1_2)]) (st' := [.int (-1)]) (I' := I1) (J' := J1) (by with_unfolding_all rfl) ?_
    subst hq
    exact pq_2i (x := (-1)) rfl ⟨_, rfl, rfl⟩
  ·
    intro y1_1 y1_2 I1 J1 hc1
    rw [hc1] at hq
    dsimp only at hq
    rw [show Nat.beq 1 0 = false from rfl, cond_false] at hq
    refine pq_s hB 1 (pc' := 31) (L' := [(0, .ref 185), (1, .int y1_1), (2, .int y1_2)]) (st' := [.int y1_2]) (I' := I1) (J' := J1) (by with_unfolding_all rfl) ?_
    subst hq
    exact pq_2i (x := y1_2) rfl ⟨_, rfl, rfl⟩
-- LPModel.livesOn, from 61 on
def f283_185_j61 (N : Nat) (I : tI) (J : tJ) (x2 : Int32) (x3 : Int32) : Option (Unit × tI × tJ) :=
  bif xcmp .ne (I 186 ((x2 + 4)).toNatClampNeg) 0 then (match f282_185 I J (I 186 ((x2 + 5)).toNatClampNeg) (I 186 (((x2 + 6) + (x3 - x3 / (I 186 ((x2 + 3)).toNatClampNeg) * (I 186 ((x2 + 3)).toNatClampNeg)))).toNatClampNeg) with | (v5, I5, J5) => (match f264_185 N I5 J5 v5 with | none => none | some (v6, I6, J6) => bif xcmp .ne v6 (-1) then some ((), I6, J6) else some ((), (tup I6 186 (((x2 + 5)).toNatClampNeg) v5), J6))) else bif xcmp .gt (I 186 ((x2 + 1)).toNatClampNeg) (x3 + 1) then some ((), I, J) else (match f262_185 I J (I 186 (x2).toNatClampNeg) with | (v9, I9, J9) => bif xcmp .ne v9 0 then some ((), I9, J9) else (match f264_185 N I9 J9 (I9 186 (x2).toNatClampNeg) with | none => none | some (v11, I11, J11) => bif xcmp .eq v11 (-1) then some ((), (tup (tup I11 186 (((x2 + 4)).toNatClampNeg) 1) 186 (((x2 + 5)).toNatClampNeg) ((tup I11 186 (((x2 + 4)).toNatClampNeg) 1) 186 ((x2).toNatClampNeg))), J11) else some ((), I11, J11)))
set_option maxRecDepth 100000 in
theorem f283_185_j61_pq {sc : List Int32} {B : xM} {N : Nat} {I : tI} {J : tJ} {x2 : Int32} {x3 : Int32} (hB : kB pT B) : ∀ {X : Option (Unit × tI × tJ)}, f283_185_j61 N I J x2 x3 = X → pq sc B N (xt_283, 5, 0) 61 [(0, .ref 185), (2, .int x2), (3, .int x3)] [] I J (fun v I1 J1 => v = none ∧ X = some ((), I1, J1)) := by
  intro X hq
  unfold f283_185_j61 at hq
  have hle : N ≤ N := Nat.le_refl N
  refine pq_s hB 6 (pc' := 69) (L' := [(0, .ref 185), (2, .int x2), (3, .int x3)]) (st' := [.int (I 186 ((x2 + 4)).toNatClampNeg)]) (I' := I) (J' := J) (by with_unfolding_all rfl) ?_
  refine pq_ifn hB rfl (fun h4 => ?_) (fun h4 => ?_)
  · rw [h4, cond_true] at hq
    refine pq_s hB 19 (pc' := 164) (L' := [(0, .ref 185), (2, .int x2), (3, .int x3)]) (st' := [.int (I 186 ((x2 + 3)).toNatClampNeg), .int x3, .int (x2 + 6), .ref 186, .int (I 186 ((x2 + 5)).toNatClampNeg), .ref 185]) (I' := I) (J' := J) (by with_unfolding_all rfl) ?_
    refine pq_irem hB rfl (fun _ => ?_)
    refine pq_s hB 2 (pc' := 167) (L' := [(0, .ref 185), (2, .int x2), (3, .int x3)]) (st' := [.int (I 186 (((x2 + 6) + (x3 - x3 / (I 186 ((x2 + 3)).toNatClampNeg) * (I 186 ((x2 + 3)).toNatClampNeg)))).toNatClampNeg), .int (I 186 ((x2 + 5)).toNatClampNeg), .ref 185]) (I' := I) (J' := J) (by with_unfolding_all rfl) ?_
    generalize hc5 : f282_185 I J (I 186 ((x2 + 5)).toNatClampNeg) (I 186 (((x2 + 6) + (x3 - x3 / (I 186 ((x2 + 3)).toNatClampNeg) * (I 186 ((x2 + 3)).toNatClampNeg)))).toNatClampNeg) = q5 at hq
    obtain ⟨v5, _, _⟩ := q5
    dsimp only at hq
    refine pq_1 rfl rfl rfl rfl (f282_185_pq hB hc5) ?_
    rintro _ I5 J5 ⟨rfl, rfl, rfl⟩
    refine pq_s hB 3 (pc' := 175) (L' := [(4, .int v5), (0, .ref 185), (2, .int x2), (3, .int x3)]) (st' := [.int v5, .ref 185]) (I' := I5) (J' := J5) (by with_unfolding_all rfl) ?_
    refine pq_1 rfl rfl rfl rfl (pq_le hle (f264_185_pq hB rfl)) ?_
    rintro _ I6 J6 ⟨v6, rfl, hc6⟩
    rw [hc6] at hq
    dsimp only at hq
    refine pq_s hB 1 (pc' := 179) (L' := [(4, .int v5), (0, .ref 185), (2, .int x2), (3, .int x3)]) (st' := [.int (-1), .int v6]) (I' := I6) (J' := J6) (by with_unfolding_all rfl) ?_
    refine pq_icn hB rfl (fun h7 => ?_) (fun h7 => ?_)
    · rw [h7, cond_true] at hq
      subst hq
      exact pq_2 (v := none) rfl rfl (by with_unfolding_all rfl) ⟨rfl, rfl⟩
    · rw [h7, cond_false] at hq
      refine pq_s hB 7 (pc' := 192) (L' := [(4, .int v5), (0, .ref 185), (2, .int x2), (3, .int x3)]) (st' := []) (I' := (tup I6 186 (((x2 + 5)).toNatClampNeg) v5)) (J' := J6) (by with_unfolding_all rfl) ?_
      subst hq
      exact pq_2 (v := none) rfl rfl (by with_unfolding_all rfl) ⟨rfl, rfl⟩
  · rw [h4, cond_false] at hq
    refine pq_s hB 9 (pc' := 83) (L' := [(0, .ref 185), (2, .int x2), (3, .int x3)]) (st' := [.int (x3 + 1), .int (I 186 ((x2 + 1)).toNatClampNeg)]) (I' := I) (J' := J) (by with_unfolding_all rfl) ?_
    refine pq_icn hB rfl (fun h8 => ?_) (fun h8 => ?_)
    · rw [h8, cond_true] at hq
      subst hq
      exact pq_2 (v := none) rfl rfl (by with_unfolding_all rfl) ⟨rfl, rfl⟩
    · rw [h8, cond_false] at hq
      refine pq_s hB 5 (pc' := 93) (L' := [(0, .ref 185), (2, .int x2), (3, .int x3)]) (st' := [.int (I 186 (x2).toNatClampNeg), .ref 185]) (I' := I) (J' := J) (by with_unfolding_all rfl) ?_
      generalize hc9 : f262_185 I J (I 186 (x2).toNatClampNeg) = q9 at hq
      obtain ⟨v9, _, _⟩ := q9
      dsimp only at hq
      refine pq_1 rfl rfl rfl rfl (f262_185_pq hB hc9) ?_
      rintro _ I9 J9 ⟨rfl, rfl, rfl⟩
      refine pq_ifn hB rfl (fun h10 => ?_) (fun h10 => ?_)
      · rw [h10, cond_true] at hq
        subst hq
        exact pq_2 (v := none) rfl rfl (by with_unfolding_all rfl) ⟨rfl, rfl⟩
      · rw [h10, cond_false] at hq
        refine pq_s hB 5 (pc' := 106) (L' := [(0, .ref 185), (2, .int x2), (3, .int x3)]) (st' := [.int (I9 186 (x2).toNatClampNeg), .ref 185]) (I' := I9) (J' := J9) (by with_unfolding_all rfl) ?_
        refine pq_1 rfl rfl rfl rfl (pq_le hle (f264_185_pq hB rfl)) ?_
        rintro _ I11 J11 ⟨v11, rfl, hc11⟩
        rw [hc11] at hq
        dsimp only at hq
        refine pq_s hB 1 (pc' := 110) (L' := [(0, .ref 185), (2, .int x2), (3, .int x3)]) (st' := [.int (-1), .int v11]) (I' := I11) (J' := J11) (by with_unfolding_all rfl) ?_
        refine pq_icn hB rfl (fun h12 => ?_) (fun h12 => ?_)
        · rw [h12, cond_true] at hq
          refine pq_s hB 17 (pc' := 137) (L' := [(0, .ref 185), (2, .int x2), (3, .int x3)]) (st' := []) (I' := (tup (tup I11 186 (((x2 + 4)).toNatClampNeg) 1) 186 (((x2 + 5)).toNatClampNeg) ((tup I11 186 (((x2 + 4)).toNatClampNeg) 1) 186 ((x2).toNatClampNeg)))) (J' := J11) (by with_unfolding_all rfl) ?_
          subst hq
          exact pq_2 (v := none) rfl rfl (by with_unfolding_all rfl) ⟨rfl, rfl⟩
        · rw [h12, cond_false] at hq
          subst hq
          exact pq_2 (v := none) rfl rfl (by with_unfolding_all rfl) ⟨rfl, rfl⟩
-- LPModel.livesOn
def f283_185 (N : Nat) (I : tI) (J : tJ) (a0 : Int32) : Option (Unit × tI × tJ) :=
  (match f251 I J a0 with | (v1, I1, J1) => bif xcmp .ne (I1 186 ((v1 + 4)).toNatClampNeg) 2 then (bif xcmp .eq (I1 186 ((v1 + 2)).toNatClampNeg) (-1) then f283_185_j61 N I1 J1 v1 (I1 186 5) else bif xcmp .gt (I1 186 ((v1 + 2)).toNatClampNeg) ((I1 186 5) + 1) then f283_185_j61 N I1 J1 v1 (I1 186 5) else some ((), (tup I1 186 (((v1 + 4)).toNatClampNeg) 2), J1)) else some ((), I1, J1))
set_option maxRecDepth 100000 in
theorem f283_185_pq {sc : List Int32} {B : xM} {N : Nat} {I : tI} {J : tJ} {a0 : Int32} (hB : kB pT B) : ∀ {X : Option (Unit × tI × tJ)}, f283_185 N I J a0 = X → pq sc B N (xt_283, 5, 0) 0 [(0, .ref 185), (1, .int a0)] [] I J (fun v I1 J1 => v = none ∧ X = some ((), I1, J1)) := by
  intro X hq
  unfold f283_185 at hq
  have hle : N ≤ N := Nat.le_refl N
  refine pq_s hB 1 (pc' := 1) (L' := [(0, .ref 185), (1, .int a0)]) (st' := [.int a0]) (I' := I) (J' := J) (by with_unfolding_all rfl) ?_
  generalize hc1 : f251 I J a0 = q1 at hq
  obtain ⟨v1, _, _⟩ := q1
  dsimp only at hq
  refine pq_1 rfl rfl rfl rfl (f251_pq hB hc1) ?_
  rintro _ I1 J1 ⟨rfl, rfl, rfl⟩
  refine pq_s hB 13 (pc' := 21) (L' := [(3, .int (I1 186 5)), (2, .int v1), (0, .ref 185), (1, .int a0)]) (st' := [.int 2, .int (I1 186 ((v1 + 4)).toNatClampNeg)]) (I' := I1) (J' := J1) (by with_unfolding_all rfl) ?_
  refine pq_icn hB rfl (fun h2 => ?_) (fun h2 => ?_)
  · rw [h2, cond_true] at hq
    refine pq_s hB 7 (pc' := 34) (L' := [(3, .int (I1 186 5)), (2, .int v1), (0, .ref 185), (1, .int a0)]) (st' := [.int (-1), .int (I1 186 ((v1 + 2)).toNatClampNeg)]) (I' := I1) (J' := J1) (by with_unfolding_all rfl) ?_
    refine pq_icn hB rfl (fun h3 => ?_) (fun h3 => ?_)
    · rw [h3, cond_true] at hq
      refine pq_perm (L := [(0, .ref 185), (2, .int v1), (3, .int (I1 186 5))]) (leqn_of ⟨rfl, rfl, rfl, trivial⟩ ⟨rfl, rfl, rfl, trivial⟩ ⟨rfl, rfl, rfl, rfl, trivial⟩) ?_
      exact f283_185_j61_pq hB hq
    · rw [h3, cond_false] at hq
      refine pq_s hB 9 (pc' := 48) (L' := [(3, .int (I1 186 5)), (2, .int v1), (0, .ref 185), (1, .int a0)]) (st' := [.int ((I1 186 5) + 1), .int (I1 186 ((v1 + 2)).toNatClampNeg)]) (I' := I1) (J' := J1) (by with_unfolding_all rfl) ?_
      refine pq_icn hB rfl (fun h4 => ?_) (fun h4 => ?_)
      · rw [h4, cond_true] at hq
        refine pq_perm (L := [(0, .ref 185), (2, .int v1), (3, .int (I1 186 5))]) (leqn_of ⟨rfl, rfl, rfl, trivial⟩ ⟨rfl, rfl, rfl, trivial⟩ ⟨rfl, rfl, rfl, rfl, trivial⟩) ?_
        exact f283_185_j61_pq hB hq
      · rw [h4, cond_false] at hq
        refine pq_s hB 7 (pc' := 60) (L' := [(3, .int (I1 186 5)), (2, .int v1), (0, .ref 185), (1, .int a0)]) (st' := []) (I' := (tup I1 186 (((v1 + 4)).toNatClampNeg) 2)) (J' := J1) (by with_unfolding_all rfl) ?_
        subst hq
        exact pq_2 (v := none) rfl rfl (by with_unfolding_all rfl) ⟨rfl, rfl⟩
  · rw [h2, cond_false] at hq
    subst hq
    exact pq_2 (v := none) rfl rfl (by with_unfolding_all rfl) ⟨rfl, rfl⟩
-- LPModel.second, the loop at 2, to [23]
def f284_185_l2 (N : Nat) : Nat → tI → tJ → Int32 → Option (Int32 × tI × tJ)
  | 0, _, _, _ => none
  | k + 1, I, J, x1 =>
    bif xcmp .ge x1 (I 186 2) then some (x1, I, J) else (match f283_185 N I J x1 with | none => none | some (_, I2, J2) => f284_185_l2 N k I2 J2 (x1 + 1))
set_option maxRecDepth 100000 in
theorem f284_185_l2_pq {sc : List Int32} {B : xM} {N : Nat} {P : Option Value → tI → tJ → Prop} (hB : kB pT B) : ∀ (k : Nat), k ≤ N → ∀ (b m : Nat), b ≤ k → b ≤ m → ∀ {I : tI} {J : tJ} {x1 : Int32} {Y : Option (Int32 × tI × tJ)}, f284_185_l2 N k I J x1 = Y → (∀ {y1 : Int32} {I1 : tI} {J1 : tJ}, Y = some (y1, I1, J1) → pq sc B m (xt_284, 2, 0) 23 [(0, .ref 185), (1, .int y1)] [] I1 J1 P) → pq sc B b (xt_284, 2, 0) 2 [(0, .ref 185), (1, .int x1)] [] I J P
  | 0, _, b, _, hb, _, _, _, _, _, _, _ => by
    have e : b = 0 := by omega
    subst e
    exact pq_zero
  | _ + 1, _, 0, _, _, _, _, _, _, _, _, _ => pq_zero
  | k + 1, hk, b + 1, m, hb, hm, I, J, x1, Y, hq, hx0 => by
    unfold f284_185_l2 at hq
    have hle : b ≤ N := by omega
    refine pq_s1 hB 4 (pc' := 9) (L' := [(0, .ref 185), (1, .int x1)]) (st' := [.int (I 186 2), .int x1]) (I' := I) (J' := J) (by with_unfolding_all rfl) ?_
    refine pq_icn hB rfl (fun h1 => ?_) (fun h1 => ?_)
    · rw [h1, cond_true] at hq
      exact pq_le (by omega) (hx0 hq.symm)
    · rw [h1, cond_false] at hq
      refine pq_s hB 2 (pc' := 14) (L' := [(0, .ref 185), (1, .int x1)]) (st' := [.int x1, .ref 185]) (I' := I) (J' := J) (by with_unfolding_all rfl) ?_
      refine pq_1 rfl rfl rfl rfl (pq_le hle (f283_185_pq hB rfl)) ?_
      rintro _ I2 J2 ⟨rfl, hc2⟩
      rw [hc2] at hq
      dsimp only at hq
      refine pq_s hB 2 (pc' := 2) (L' := [(1, .int (x1 + 1)), (0, .ref 185)]) (st' := []) (I' := I2) (J' := J2) (by with_unfolding_all rfl) ?_
      refine pq_perm (L := [(0, .ref 185), (1, .int (x1 + 1))]) (leqn_of ⟨rfl, rfl, trivial⟩ ⟨rfl, rfl, trivial⟩ ⟨rfl, rfl, trivial⟩) ?_
      exact f284_185_l2_pq hB k (by omega) b m (by omega) (by omega) hq hx0
-- LPModel.second
def f284_185 (N : Nat) (I : tI) (J : tJ) : Option (Unit × tI × tJ) :=
  (match f284_185_l2 N N I J 0 with | none => none | some (y1_1, I1, J1) => some ((), (tup I1 186 5 ((I1 186 5) + 1)), J1))
set_option maxRecDepth 100000 in
theorem f284_185_pq {sc : List Int32} {B : xM} {N : Nat} {I : tI} {J : tJ} (hB : kB pT B) : ∀ {X : Option (Unit × tI × tJ)}, f284_185 N I J = X → pq sc B N (xt_284, 2, 0) 0 [(0, .ref 185)] [] I J (fun v I1 J1 => v = none ∧ X = some ((), I1, J1)) := by
  intro X hq
  unfold f284_185 at hq
  have hle : N ≤ N := Nat.le_refl N
  refine pq_s hB 2 (pc' := 2) (L' := [(1, .int 0), (0, .ref 185)]) (st' := []) (I' := I) (J' := J) (by with_unfolding_all rfl) ?_
  refine pq_perm (L := [(0, .ref 185), (1, .int 0)]) (leqn_of ⟨rfl, rfl, trivial⟩ ⟨rfl, rfl, trivial⟩ ⟨rfl, rfl, trivial⟩) ?_
  refine f284_185_l2_pq hB N (Nat.le_refl N) N N hle (Nat.le_refl N) rfl ?_
  intro y1_1 I1 J1 hc1
  rw [hc1] at hq
  dsimp only at hq
  refine pq_s hB 8 (pc' := 33) (L' := [(0, .ref 185), (1, .int y1_1)]) (st' := []) (I' := (tup I1 186 5 ((I1 186 5) + 1))) (J' := J1) (by with_unfolding_all rfl) ?_
  subst hq
  exact pq_2 (v := none) rfl rfl (by with_unfolding_all rfl) ⟨rfl, rfl⟩
-- LPModel.seconds, the loop at 2, to [17]
def f285_185_l2 (N : Nat) : Nat → tI → tJ → Int32 → Int32 → Option (Int32 × Int32 × tI × tJ)
  | 0, _, _, _, _ => none
  | k + 1, I, J, x1, x2 =>
    bif xcmp .ge x2 x1 then some (x1, x2, I, J) else (match f284_185 N I J with | none => none | some (_, I2, J2) => f285_185_l2 N k I2 J2 x1 (x2 + 1))
set_option maxRecDepth 100000 in
theorem f285_185_l2_pq {sc : List Int32} {B : xM} {N : Nat} {P : Option Value → tI → tJ → Prop} (hB : kB pT B) : ∀ (k : Nat), k ≤ N → ∀ (b m : Nat), b ≤ k → b ≤ m → ∀ {I : tI} {J : tJ} {x1 : Int32} {x2 : Int32} {Y : Option (Int32 × Int32 × tI × tJ)}, f285_185_l2 N k I J x1 x2 = Y → (∀ {y1 : Int32} {y2 : Int32} {I1 : tI} {J1 : tJ}, Y = some (y1, y2, I1, J1) → pq sc B m (xt_285, 3, 0) 17 [(0, .ref 185), (1, .int y1), (2, .int y2)] [] I1 J1 P) → pq sc B b (xt_285, 3, 0) 2 [(0, .ref 185), (1, .int x1), (2, .int x2)] [] I J P
  | 0, _, b, _, hb, _, _, _, _, _, _, _, _ => by
    have e : b = 0 := by omega
    subst e
    exact pq_zero
  | _ + 1, _, 0, _, _, _, _, _, _, _, _, _, _ => pq_zero
  | k + 1, hk, b + 1, m, hb, hm, I, J, x1, x2, Y, hq, hx0 => by
    unfold f285_185_l2 at hq
    have hle : b ≤ N := by omega
    refine pq_s1 hB 1 (pc' := 4) (L' := [(0, .ref 185), (1, .int x1), (2, .int x2)]) (st' := [.int x1, .int x2]) (I' := I) (J' := J) (by with_unfolding_all rfl) ?_
    refine pq_icn hB rfl (fun h1 => ?_) (fun h1 => ?_)
    · rw [h1, cond_true] at hq
      exact pq_le (by omega) (hx0 hq.symm)
    · rw [h1, cond_false] at hq
      refine pq_s hB 1 (pc' := 8) (L' := [(0, .ref 185), (1, .int x1), (2, .int x2)]) (st' := [.ref 185]) (I' := I) (J' := J) (by with_unfolding_all rfl) ?_
      refine pq_1 rfl rfl rfl rfl (pq_le hle (f284_185_pq hB rfl)) ?_
      rintro _ I2 J2 ⟨rfl, hc2⟩
      rw [hc2] at hq
      dsimp only at hq
      refine pq_s hB 2 (pc' := 2) (L' := [(2, .int (x2 + 1)), (0, .ref 185), (1, .int x1)]) (st' := []) (I' := I2) (J' := J2) (by with_unfolding_all rfl) ?_
      refine pq_perm (L := [(0, .ref 185), (1, .int x1), (2, .int (x2 + 1))]) (leqn_of ⟨rfl, rfl, rfl, trivial⟩ ⟨rfl, rfl, rfl, trivial⟩ ⟨rfl, rfl, rfl, trivial⟩) ?_
      exact f285_185_l2_pq hB k (by omega) b m (by omega) (by omega) hq hx0
-- LPModel.seconds
def f285_185 (N : Nat) (I : tI) (J : tJ) (a0 : Int32) : Option (Unit × tI × tJ) :=
  (match f285_185_l2 N N I J a0 0 with | none => none | some (y1_1, y1_2, I1, J1) => some ((), I1, J1))
set_option maxRecDepth 100000 in
theorem f285_185_pq {sc : List Int32} {B : xM} {N : Nat} {I : tI} {J : tJ} {a0 : Int32} (hB : kB pT B) : ∀ {X : Option (Unit × tI × tJ)}, f285_185 N I J a0 = X → pq sc B N (xt_285, 3, 0) 0 [(0, .ref 185), (1, .int a0)] [] I J (fun v I1 J1 => v = none ∧ X = some ((), I1, J1)) := by
  intro X hq
  unfold f285_185 at hq
  have hle : N ≤ N := Nat.le_refl N
  refine pq_s hB 2 (pc' := 2) (L' := [(2, .int 0), (0, .ref 185), (1, .int a0)]) (st' := []) (I' := I) (J' := J) (by with_unfolding_all rfl) ?_
  refine pq_perm (L := [(0, .ref 185), (1, .int a0), (2, .int 0)]) (leqn_of ⟨rfl, rfl, rfl, trivial⟩ ⟨rfl, rfl, rfl, trivial⟩ ⟨rfl, rfl, rfl, trivial⟩) ?_
  refine f285_185_l2_pq hB N (Nat.le_refl N) N N hle (Nat.le_refl N) rfl ?_
  intro y1_1 y1_2 I1 J1 hc1
  rw [hc1] at hq
  dsimp only at hq
  subst hq
  exact pq_2 (v := none) rfl rfl (by with_unfolding_all rfl) ⟨rfl, rfl⟩
-- LPModel.restores, the loop at 2, to [29]
def f297_185_l2 (N : Nat) : Nat → tI → tJ → Int32 → Int32 → Option (Int32 × Int32 × tI × tJ)
  | 0, _, _, _, _ => none
  | k + 1, I, J, x1, x2 =>
    bif xcmp .ge x2 252 then some (x1, x2, I, J) else f297_185_l2 N k (tup I 186 ((x2).toNatClampNeg) (I 186 ((x1 + x2)).toNatClampNeg)) J x1 (x2 + 1)
set_option maxRecDepth 100000 in
theorem f297_185_l2_pq {sc : List Int32} {B : xM} {N : Nat} {P : Option Value → tI → tJ → Prop} (hB : kB pT B) : ∀ (k : Nat), k ≤ N → ∀ (b m : Nat), b ≤ k → b ≤ m → ∀ {I : tI} {J : tJ} {x1 : Int32} {x2 : Int32} {Y : Option (Int32 × Int32 × tI × tJ)}, f297_185_l2 N k I J x1 x2 = Y → (∀ {y1 : Int32} {y2 : Int32} {I1 : tI} {J1 : tJ}, Y = some (y1, y2, I1, J1) → pq sc B m (xt_297, 3, 0) 29 [(0, .ref 185), (1, .int y1), (2, .int y2)] [] I1 J1 P) → pq sc B b (xt_297, 3, 0) 2 [(0, .ref 185), (1, .int x1), (2, .int x2)] [] I J P
  | 0, _, b, _, hb, _, _, _, _, _, _, _, _ => by
    have e : b = 0 := by omega
    subst e
    exact pq_zero
  | _ + 1, _, 0, _, _, _, _, _, _, _, _, _, _ => pq_zero
  | k + 1, hk, b + 1, m, hb, hm, I, J, x1, x2, Y, hq, hx0 => by
    unfold f297_185_l2 at hq
    have hle : b ≤ N := by omega
    refine pq_s1 hB 1 (pc' := 6) (L' := [(0, .ref 185), (1, .int x1), (2, .int x2)]) (st' := [.int 252, .int x2]) (I' := I) (J' := J) (by with_unfolding_all rfl) ?_
    refine pq_icn hB rfl (fun h1 => ?_) (fun h1 => ?_)
    · rw [h1, cond_true] at hq
      exact pq_le (by omega) (hx0 hq.symm)
    · rw [h1, cond_false] at hq
      refine pq_s hB 12 (pc' := 2) (L' := [(2, .int (x2 + 1)), (0, .ref 185), (1, .int x1)]) (st' := []) (I' := (tup I 186 ((x2).toNatClampNeg) (I 186 ((x1 + x2)).toNatClampNeg))) (J' := J) (by with_unfolding_all rfl) ?_
      refine pq_perm (L := [(0, .ref 185), (1, .int x1), (2, .int (x2 + 1))]) (leqn_of ⟨rfl, rfl, rfl, trivial⟩ ⟨rfl, rfl, rfl, trivial⟩ ⟨rfl, rfl, rfl, trivial⟩) ?_
      exact f297_185_l2_pq hB k (by omega) b m (by omega) (by omega) hq hx0
-- LPModel.restores
def f297_185 (N : Nat) (I : tI) (J : tJ) (a0 : Int32) : Option (Unit × tI × tJ) :=
  (match f297_185_l2 N N I J a0 0 with | none => none | some (y1_1, y1_2, I1, J1) => some ((), I1, J1))
set_option maxRecDepth 100000 in
theorem f297_185_pq {sc : List Int32} {B : xM} {N : Nat} {I : tI} {J : tJ} {a0 : Int32} (hB : kB pT B) : ∀ {X : Option (Unit × tI × tJ)}, f297_185 N I J a0 = X → pq sc B N (xt_297, 3, 0) 0 [(0, .ref 185), (1, .int a0)] [] I J (fun v I1 J1 => v = none ∧ X = some ((), I1, J1)) := by
  intro X hq
  unfold f297_185 at hq
  have hle : N ≤ N := Nat.le_refl N
  refine pq_s hB 2 (pc' := 2) (L' := [(2, .int 0), (0, .ref 185), (1, .int a0)]) (st' := []) (I' := I) (J' := J) (by with_unfolding_all rfl) ?_
  refine pq_perm (L := [(0, .ref 185), (1, .int a0), (2, .int 0)]) (leqn_of ⟨rfl, rfl, rfl, trivial⟩ ⟨rfl, rfl, rfl, trivial⟩ ⟨rfl, rfl, rfl, trivial⟩) ?_
  refine f297_185_l2_pq hB N (Nat.le_refl N) N N hle (Nat.le_refl N) rfl ?_
  intro y1_1 y1_2 I1 J1 hc1
  rw [hc1] at hq
  dsimp only at hq
  subst hq
  exact pq_2 (v := none) rfl rfl (by with_unfolding_all rfl) ⟨rfl, rfl⟩
-- LPModel.orNone
def f207_185 (I : tI) (J : tJ) (a0 : Int32) : Int32 × tI × tJ :=
  bif xcmp .ne a0 (-1) then (match f206_185 I J a0 with | (v2, I2, J2) => (v2, I2, J2)) else (match f205_185 I J 6 with | (v3, I3, J3) => (v3, I3, J3))
set_option maxRecDepth 100000 in
theorem f207_185_pq {sc : List Int32} {B : xM} {n : Nat} {I : tI} {J : tJ} {a0 : Int32} (hB : kB pT B) : ∀ {q : Int32 × tI × tJ}, f207_185 I J a0 = q → pq sc B n (xt_207, 2, 1) 0 [(0, .ref 185), (1, .int a0)] [] I J (fun v I1 J1 => v = some (.int q.1) ∧ I1 = q.2.1 ∧ J1 = q.2.2) := by
  intro q hq
  unfold f207_185 at hq
  refine pq_s hB 2 (pc' := 2) (L' := [(0, .ref 185), (1, .int a0)]) (st' := [.int (-1), .int a0]) (I' := I) (J' := J) (by with_unfolding_all rfl) ?_
  refine pq_icn hB rfl (fun h1 => ?_) (fun h1 => ?_)
  · rw [h1, cond_true] at hq
    refine pq_s hB 2 (pc' := 16) (L' := [(0, .ref 185), (1, .int a0)]) (st' := [.int a0, .ref 185]) (I' := I) (J' := J) (by with_unfolding_all rfl) ?_
    generalize hc2 : f206_185 I J a0 = q2 at hq
    obtain ⟨v2, _, _⟩ := q2
    dsimp only at hq
    refine pq_1 rfl rfl rfl rfl (f206_185_pq hB hc2) ?_
    rintro _ I2 J2 ⟨rfl, rfl, rfl⟩
    subst hq
    exact pq_2i (x := v2) rfl ⟨rfl, rfl, rfl⟩
  · rw [h1, cond_false] at hq
    refine pq_s hB 2 (pc' := 8) (L' := [(0, .ref 185), (1, .int a0)]) (st' := [.int 6, .ref 185]) (I' := I) (J' := J) (by with_unfolding_all rfl) ?_
    generalize hc3 : f205_185 I J 6 = q3 at hq
    obtain ⟨v3, _, _⟩ := q3
    dsimp only at hq
    refine pq_1 rfl rfl rfl rfl (f205_185_pq hB hc3) ?_
    rintro _ I3 J3 ⟨rfl, rfl, rfl⟩
    refine pq_s hB 1 (pc' := 19) (L' := [(0, .ref 185), (1, .int a0)]) (st' := [.int v3]) (I' := I3) (J' := J3) (by with_unfolding_all rfl) ?_
    subst hq
    exact pq_2i (x := v3) rfl ⟨rfl, rfl, rfl⟩
-- LPModel.told10
def f263 (I : tI) (J : tJ) (a0 : Int32) : Int32 × tI × tJ :=
  (((10 * (a0 / 6)) + (a0 - a0 / 6 * 6)), I, J)
set_option maxRecDepth 100000 in
theorem f263_pq {sc : List Int32} {B : xM} {n : Nat} {I : tI} {J : tJ} {a0 : Int32} (hB : kB pT B) : ∀ {q : Int32 × tI × tJ}, f263 I J a0 = q → pq sc B n (xt_263, 1, 1) 0 [(0, .int a0)] [] I J (fun v I1 J1 => v = some (.int q.1) ∧ I1 = q.2.1 ∧ J1 = q.2.2) := by
  intro q hq
  unfold f263 at hq
  refine pq_s hB 9 (pc' := 12) (L' := [(0, .int a0)]) (st' := [.int ((10 * (a0 / 6)) + (a0 - a0 / 6 * 6))]) (I' := I) (J' := J) (by with_unfolding_all rfl) ?_
  subst hq
  exact pq_2i (x := ((10 * (a0 / 6)) + (a0 - a0 / 6 * 6))) rfl ⟨rfl, rfl, rfl⟩
-- LPModel.placeIn
def f302_185 (N : Nat) (I : tI) (J : tJ) (a0 : Int32) (a1 : Int32) : Option (Int32 × tI × tJ) :=
  (match f254_185 I J a0 with | (v1, I1, J1) => bif xcmp .eq v1 0 then (match f205_185 I1 J1 1 with | (v3, I3, J3) => some (v3, I3, J3)) else (match f298 I1 J1 a1 0 with | (v4, I4, J4) => bif xcmp .ne v4 0 then (match f296_185 N I4 J4 3720 with | none => none | some (_, I6, J6) => (match f285_185 N I6 J6 a1 with | none => none | some (_, I7, J7) => (match f261_185 I7 J7 a0 with | (v8, I8, J8) => bif xcmp .eq v8 0 then (match f297_185 N I8 J8 3720 with | none => none | some (_, I10, J10) => (match f207_185 I10 J10 (-1) with | (v11, I11, J11) => some (v11, I11, J11))) else (match f260_185 I8 J8 a0 5 with | (v12, I12, J12) => (match f263 I12 J12 v12 with | (v13, I13, J13) => (match f297_185 N I13 J13 3720 with | none => none | some (_, I14, J14) => (match f207_185 I14 J14 v13 with | (v15, I15, J15) => some (v15, I15, J15)))))))) else (match f205_185 I4 J4 1 with | (v16, I16, J16) => some (v16, I16, J16))))
set_option maxRecDepth 100000 in
theorem f302_185_pq {sc : List Int32} {B : xM} {N : Nat} {I : tI} {J : tJ} {a0 : Int32} {a1 : Int32} (hB : kB pT B) : ∀ {X : Option (Int32 × tI × tJ)}, f302_185 N I J a0 a1 = X → pq sc B N (xt_302, 4, 1) 0 [(0, .ref 185), (1, .int a0), (2, .int a1)] [] I J (fun v I1 J1 => ∃ a, v = some (.int a) ∧ X = some (a, I1, J1)) := by
  intro X hq
  unfold f302_185 at hq
  have hle : N ≤ N := Nat.le_refl N
  refine pq_s hB 2 (pc' := 2) (L' := [(0, .ref 185), (1, .int a0), (2, .int a1)]) (st' := [.int a0, .ref 185]) (I' := I) (J' := J) (by with_unfolding_all rfl) ?_
  generalize hc1 : f254_185 I J a0 = q1 at hq
  obtain ⟨v1, _, _⟩ := q1
  dsimp only at hq
  refine pq_1 rfl rfl rfl rfl (f254_185_pq hB hc1) ?_
  rintro _ I1 J1 ⟨rfl, rfl, rfl⟩
  refine pq_ifn hB rfl (fun h2 => ?_) (fun h2 => ?_)
  · rw [h2, cond_true] at hq
    refine pq_s hB 2 (pc' := 18) (L' := [(0, .ref 185), (1, .int a0), (2, .int a1)]) (st' := [.int 1, .ref 185]) (I' := I1) (J' := J1) (by with_unfolding_all rfl) ?_
    generalize hc3 : f205_185 I1 J1 1 = q3 at hq
    obtain ⟨v3, _, _⟩ := q3
    dsimp only at hq
    refine pq_1 rfl rfl rfl rfl (f205_185_pq hB hc3) ?_
    rintro _ I3 J3 ⟨rfl, rfl, rfl⟩
    subst hq
    exact pq_2i (x := v3) rfl ⟨_, rfl, rfl⟩
  · rw [h2, cond_false] at hq
    refine pq_s hB 2 (pc' := 10) (L' := [(0, .ref 185), (1, .int a0), (2, .int a1)]) (st' := [.int 0, .int a1]) (I' := I1) (J' := J1) (by with_unfolding_all rfl) ?_
    generalize hc4 : f298 I1 J1 a1 0 = q4 at hq
    obtain ⟨v4, _, _⟩ := q4
    dsimp only at hq
    refine pq_1 rfl rfl rfl rfl (f298_pq hB hc4) ?_
    rintro _ I4 J4 ⟨rfl, rfl, rfl⟩
    refine pq_ifn hB rfl (fun h5 => ?_) (fun h5 => ?_)
    · rw [h5, cond_true] at hq
      refine pq_s hB 2 (pc' := 26) (L' := [(0, .ref 185), (1, .int a0), (2, .int a1)]) (st' := [.int 3720, .ref 185]) (I' := I4) (J' := J4) (by with_unfolding_all rfl) ?_
      refine pq_1 rfl rfl rfl rfl (pq_le hle (f296_185_pq hB rfl)) ?_
      rintro _ I6 J6 ⟨rfl, hc6⟩
      rw [hc6] at hq
      dsimp only at hq
      refine pq_s hB 2 (pc' := 31) (L' := [(0, .ref 185), (1, .int a0), (2, .int a1)]) (st' := [.int a1, .ref 185]) (I' := I6) (J' := J6) (by with_unfolding_all rfl) ?_
      refine pq_1 rfl rfl rfl rfl (pq_le hle (f285_185_pq hB rfl)) ?_
      rintro _ I7 J7 ⟨rfl, hc7⟩
      rw [hc7] at hq
      dsimp only at hq
      refine pq_s hB 2 (pc' := 36) (L' := [(0, .ref 185), (1, .int a0), (2, .int a1)]) (st' := [.int a0, .ref 185]) (I' := I7) (J' := J7) (by with_unfolding_all rfl) ?_
      generalize hc8 : f261_185 I7 J7 a0 = q8 at hq
      obtain ⟨v8, _, _⟩ := q8
      dsimp only at hq
      refine pq_1 rfl rfl rfl rfl (f261_185_pq hB hc8) ?_
      rintro _ I8 J8 ⟨rfl, rfl, rfl⟩
      refine pq_ifn hB rfl (fun h9 => ?_) (fun h9 => ?_)
      · rw [h9, cond_true] at hq
        refine pq_s hB 4 (pc' := 60) (L' := [(3, .int (-1)), (0, .ref 185), (1, .int a0), (2, .int a1)]) (st' := [.int 3720, .ref 185]) (I' := I8) (J' := J8) (by with_unfolding_all rfl) ?_
        refine pq_1 rfl rfl rfl rfl (pq_le hle (f297_185_pq hB rfl)) ?_
        rintro _ I10 J10 ⟨rfl, hc10⟩
        rw [hc10] at hq
        dsimp only at hq
        refine pq_s hB 2 (pc' := 65) (L' := [(3, .int (-1)), (0, .ref 185), (1, .int a0), (2, .int a1)]) (st' := [.int (-1), .ref 185]) (I' := I10) (J' := J10) (by with_unfolding_all rfl) ?_
        generalize hc11 : f207_185 I10 J10 (-1) = q11 at hq
        obtain ⟨v11, _, _⟩ := q11
        dsimp only at hq
        refine pq_1 rfl rfl rfl rfl (f207_185_pq hB hc11) ?_
        rintro _ I11 J11 ⟨rfl, rfl, rfl⟩
        subst hq
        exact pq_2i (x := v11) rfl ⟨_, rfl, rfl⟩
      · rw [h9, cond_false] at hq
        refine pq_s hB 3 (pc' := 45) (L' := [(0, .ref 185), (1, .int a0), (2, .int a1)]) (st' := [.int 5, .int a0, .ref 185]) (I' := I8) (J' := J8) (by with_unfolding_all rfl) ?_
        generalize hc12 : f260_185 I8 J8 a0 5 = q12 at hq
        obtain ⟨v12, _, _⟩ := q12
        dsimp only at hq
        refine pq_1 rfl rfl rfl rfl (f260_185_pq hB hc12) ?_
        rintro _ I12 J12 ⟨rfl, rfl, rfl⟩
        generalize hc13 : f263 I12 J12 v12 = q13 at hq
        obtain ⟨v13, _, _⟩ := q13
        dsimp only at hq
        refine pq_1 rfl rfl rfl rfl (f263_pq hB hc13) ?_
        rintro _ I13 J13 ⟨rfl, rfl, rfl⟩
        refine pq_s hB 4 (pc' := 60) (L' := [(3, .int v13), (0, .ref 185), (1, .int a0), (2, .int a1)]) (st' := [.int 3720, .ref 185]) (I' := I13) (J' := J13) (by with_unfolding_all rfl) ?_
        refine pq_1 rfl rfl rfl rfl (pq_le hle (f297_185_pq hB rfl)) ?_
        rintro _ I14 J14 ⟨rfl, hc14⟩
        rw [hc14] at hq
        dsimp only at hq
        refine pq_s hB 2 (pc' := 65) (L' := [(3, .int v13), (0, .ref 185), (1, .int a0), (2, .int a1)]) (st' := [.int v13, .ref 185]) (I' := I14) (J' := J14) (by with_unfolding_all rfl) ?_
        generalize hc15 : f207_185 I14 J14 v13 = q15 at hq
        obtain ⟨v15, _, _⟩ := q15
        dsimp only at hq
        refine pq_1 rfl rfl rfl rfl (f207_185_pq hB hc15) ?_
        rintro _ I15 J15 ⟨rfl, rfl, rfl⟩
        subst hq
        exact pq_2i (x := v15) rfl ⟨_, rfl, rfl⟩
    · rw [h5, cond_false] at hq
      refine pq_s hB 2 (pc' := 18) (L' := [(0, .ref 185), (1, .int a0), (2, .int a1)]) (st' := [.int 1, .ref 185]) (I' := I4) (J' := J4) (by with_unfolding_all rfl) ?_
      generalize hc16 : f205_185 I4 J4 1 = q16 at hq
      obtain ⟨v16, _, _⟩ := q16
      dsimp only at hq
      refine pq_1 rfl rfl rfl rfl (f205_185_pq hB hc16) ?_
      rintro _ I16 J16 ⟨rfl, rfl, rfl⟩
      subst hq
      exact pq_2i (x := v16) rfl ⟨_, rfl, rfl⟩
-- LPModel.whoIn
def f303_185 (N : Nat) (I : tI) (J : tJ) (a0 : Int32) (a1 : Int32) (a2 : Int32) : Option (Int32 × tI × tJ) :=
  (match f253_185 I J a0 a1 with | (v1, I1, J1) => bif xcmp .eq v1 0 then (match f205_185 I1 J1 1 with | (v3, I3, J3) => some (v3, I3, J3)) else (match f298 I1 J1 a2 0 with | (v4, I4, J4) => bif xcmp .ne v4 0 then (match f296_185 N I4 J4 3720 with | none => none | some (_, I6, J6) => (match f285_185 N I6 J6 a2 with | none => none | some (_, I7, J7) => (match f264_185 N I7 J7 ((6 * a1) + a0) with | none => none | some (v8, I8, J8) => (match f297_185 N I8 J8 3720 with | none => none | some (_, I9, J9) => (match f207_185 I9 J9 v8 with | (v10, I10, J10) => some (v10, I10, J10)))))) else (match f205_185 I4 J4 1 with | (v11, I11, J11) => some (v11, I11, J11))))
set_option maxRecDepth 100000 in
theorem f303_185_pq {sc : List Int32} {B : xM} {N : Nat} {I : tI} {J : tJ} {a0 : Int32} {a1 : Int32} {a2 : Int32} (hB : kB pT B) : ∀ {X : Option (Int32 × tI × tJ)}, f303_185 N I J a0 a1 a2 = X → pq sc B N (xt_303, 5, 1) 0 [(0, .ref 185), (1, .int a0), (2, .int a1), (3, .int a2)] [] I J (fun v I1 J1 => ∃ a, v = some (.int a) ∧ X = some (a, I1, J1)) := by
  intro X hq
  unfold f303_185 at hq
  have hle : N ≤ N := Nat.le_refl N
  refine pq_s hB 3 (pc' := 3) (L' := [(0, .ref 185), (1, .int a0), (2, .int a1), (3, .int a2)]) (st' := [.int a1, .int a0, .ref 185]) (I' := I) (J' := J) (by with_unfolding_all rfl) ?_
  generalize hc1 : f253_185 I J a0 a1 = q1 at hq
  obtain ⟨v1, _, _⟩ := q1
  dsimp only at hq
  refine pq_1 rfl rfl rfl rfl (f253_185_pq hB hc1) ?_
  rintro _ I1 J1 ⟨rfl, rfl, rfl⟩
  refine pq_ifn hB rfl (fun h2 => ?_) (fun h2 => ?_)
  · rw [h2, cond_true] at hq
    refine pq_s hB 2 (pc' := 19) (L' := [(0, .ref 185), (1, .int a0), (2, .int a1), (3, .int a2)]) (st' := [.int 1, .ref 185]) (I' := I1) (J' := J1) (by with_unfolding_all rfl) ?_
    generalize hc3 : f205_185 I1 J1 1 = q3 at hq
    obtain ⟨v3, _, _⟩ := q3
    dsimp only at hq
    refine pq_1 rfl rfl rfl rfl (f205_185_pq hB hc3) ?_
    rintro _ I3 J3 ⟨rfl, rfl, rfl⟩
    subst hq
    exact pq_2i (x := v3) rfl ⟨_, rfl, rfl⟩
  · rw [h2, cond_false] at hq
    refine pq_s hB 2 (pc' := 11) (L' := [(0, .ref 185), (1, .int a0), (2, .int a1), (3, .int a2)]) (st' := [.int 0, .int a2]) (I' := I1) (J' := J1) (by with_unfolding_all rfl) ?_
    generalize hc4 : f298 I1 J1 a2 0 = q4 at hq
    obtain ⟨v4, _, _⟩ := q4
    dsimp only at hq
    refine pq_1 rfl rfl rfl rfl (f298_pq hB hc4) ?_
    rintro _ I4 J4 ⟨rfl, rfl, rfl⟩
    refine pq_ifn hB rfl (fun h5 => ?_) (fun h5 => ?_)
    · rw [h5, cond_true] at hq
      refine pq_s hB 2 (pc' := 27) (L' := [(0, .ref 185), (1, .int a0), (2, .int a1), (3, .int a2)]) (st' := [.int 3720, .ref 185]) (I' := I4) (J' := J4) (by with_unfolding_all rfl) ?_
      refine pq_1 rfl rfl rfl rfl (pq_le hle (f296_185_pq hB rfl)) ?_
      rintro _ I6 J6 ⟨rfl, hc6⟩
      rw [hc6] at hq
      dsimp only at hq
      refine pq_s hB 2 (pc' := 32) (L' := [(0, .ref 185), (1, .int a0), (2, .int a1), (3, .int a2)]) (st' := [.int a2, .ref 185]) (I' := I6) (J' := J6) (by with_unfolding_all rfl) ?_
      refine pq_1 rfl rfl rfl rfl (pq_le hle (f285_185_pq hB rfl)) ?_
      rintro _ I7 J7 ⟨rfl, hc7⟩
      rw [hc7] at hq
      dsimp only at hq
      refine pq_s hB 6 (pc' := 42) (L' := [(0, .ref 185), (1, .int a0), (2, .int a1), (3, .int a2)]) (st' := [.int ((6 * a1) + a0), .ref 185]) (I' := I7) (J' := J7) (by with_unfolding_all rfl) ?_
      refine pq_1 rfl rfl rfl rfl (pq_le hle (f264_185_pq hB rfl)) ?_
      rintro _ I8 J8 ⟨v8, rfl, hc8⟩
      rw [hc8] at hq
      dsimp only at hq
      refine pq_s hB 3 (pc' := 51) (L' := [(4, .int v8), (0, .ref 185), (1, .int a0), (2, .int a1), (3, .int a2)]) (st' := [.int 3720, .ref 185]) (I' := I8) (J' := J8) (by with_unfolding_all rfl) ?_
      refine pq_1 rfl rfl rfl rfl (pq_le hle (f297_185_pq hB rfl)) ?_
      rintro _ I9 J9 ⟨rfl, hc9⟩
      rw [hc9] at hq
      dsimp only at hq
      refine pq_s hB 2 (pc' := 57) (L' := [(4, .int v8), (0, .ref 185), (1, .int a0), (2, .int a1), (3, .int a2)]) (st' := [.int v8, .ref 185]) (I' := I9) (J' := J9) (by with_unfolding_all rfl) ?_
      generalize hc10 : f207_185 I9 J9 v8 = q10 at hq
      obtain ⟨v10, _, _⟩ := q10
      dsimp only at hq
      refine pq_1 rfl rfl rfl rfl (f207_185_pq hB hc10) ?_
      rintro _ I10 J10 ⟨rfl, rfl, rfl⟩
      subst hq
      exact pq_2i (x := v10) rfl ⟨_, rfl, rfl⟩
    · rw [h5, cond_false] at hq
      refine pq_s hB 2 (pc' := 19) (L' := [(0, .ref 185), (1, .int a0), (2, .int a1), (3, .int a2)]) (st' := [.int 1, .ref 185]) (I' := I4) (J' := J4) (by with_unfolding_all rfl) ?_
      generalize hc11 : f205_185 I4 J4 1 = q11 at hq
      obtain ⟨v11, _, _⟩ := q11
      dsimp only at hq
      refine pq_1 rfl rfl rfl rfl (f205_185_pq hB hc11) ?_
      rintro _ I11 J11 ⟨rfl, rfl, rfl⟩
      subst hq
      exact pq_2i (x := v11) rfl ⟨_, rfl, rfl⟩
-- LPModel.sightRow
def f252 (I : tI) (J : tJ) (a0 : Int32) : Int32 × tI × tJ :=
  ((110 + (3 * a0)), I, J)
set_option maxRecDepth 100000 in
theorem f252_pq {sc : List Int32} {B : xM} {n : Nat} {I : tI} {J : tJ} {a0 : Int32} (hB : kB pT B) : ∀ {q : Int32 × tI × tJ}, f252 I J a0 = q → pq sc B n (xt_252, 1, 1) 0 [(0, .int a0)] [] I J (fun v I1 J1 => v = some (.int q.1) ∧ I1 = q.2.1 ∧ J1 = q.2.2) := by
  intro q hq
  unfold f252 at hq
  refine pq_s hB 5 (pc' := 6) (L' := [(0, .int a0)]) (st' := [.int (110 + (3 * a0))]) (I' := I) (J' := J) (by with_unfolding_all rfl) ?_
  subst hq
  exact pq_2i (x := (110 + (3 * a0))) rfl ⟨rfl, rfl, rfl⟩
-- LPModel.doesShow, the loop at 17, to [43, 35]
def f265_185_l17 (N : Nat) : Nat → tI → tJ → Int32 → Option (Nat × Int32 × tI × tJ)
  | 0, _, _, _ => none
  | k + 1, I, J, x3 =>
    bif xcmp .ge x3 (I 186 2) then some (0, x3, I, J) else (match f261_185 I J x3 with | (v13, I13, J13) => bif xcmp .eq v13 0 then f265_185_l17 N k I13 J13 (x3 + 1) else some (1, x3, I13, J13))
set_option maxRecDepth 100000 in
theorem f265_185_l17_pq {sc : List Int32} {B : xM} {N : Nat} {P : Option Value → tI → tJ → Prop} (hB : kB pT B) : ∀ (k : Nat), k ≤ N → ∀ (b m : Nat), b ≤ k → b ≤ m → ∀ {I : tI} {J : tJ} {x3 : Int32} {Y : Option (Nat × Int32 × tI × tJ)}, f265_185_l17 N k I J x3 = Y → (∀ {y3 : Int32} {I1 : tI} {J1 : tJ}, Y = some (0, y3, I1, J1) → pq sc B m (xt_265, 5, 3) 43 [(0, .ref 185), (3, .int y3)] [] I1 J1 P) → (∀ {y3 : Int32} {I1 : tI} {J1 : tJ}, Y = some (1, y3, I1, J1) → pq sc B m (xt_265, 5, 3) 35 [(0, .ref 185), (3, .int y3)] [] I1 J1 P) → pq sc B b (xt_265, 5, 3) 17 [(0, .ref 185), (3, .int x3)] [] I J P
  | 0, _, b, _, hb, _, _, _, _, _, _, _, _ => by
    have e : b = 0 := by omega
    subst e
    exact pq_zero
  | _ + 1, _, 0, _, _, _, _, _, _, _, _, _, _ => pq_zero
  | k + 1, hk, b + 1, m, hb, hm, I, J, x3, Y, hq, hx0, hx1 => by
    unfold f265_185_l17 at hq
    have hle : b ≤ N := by omega
    refine pq_s1 hB 4 (pc' := 24) (L' := [(0, .ref 185), (3, .int x3)]) (st' := [.int (I 186 2), .int x3]) (I' := I) (J' := J) (by with_unfolding_all rfl) ?_
    refine pq_icn hB rfl (fun h12 => ?_) (fun h12 => ?_)
    · rw [h12, cond_true] at hq
      exact pq_le (by omega) (hx0 hq.symm)
    · rw [h12, cond_false] at hq
      refine pq_s hB 2 (pc' := 29) (L' := [(0, .ref 185), (3, .int x3)]) (st' := [.int x3, .ref 185]) (I' := I) (J' := J) (by with_unfolding_all rfl) ?_
      generalize hc13 : f261_185 I J x3 = q13 at hq
      obtain ⟨v13, _, _⟩ := q13
      dsimp only at hq
      refine pq_1 rfl rfl rfl rfl (f261_185_pq hB hc13) ?_
      rintro _ I13 J13 ⟨rfl, rfl, rfl⟩
      refine pq_ifn hB rfl (fun h14 => ?_) (fun h14 => ?_)
      · rw [h14, cond_true] at hq
        refine pq_s hB 2 (pc' := 17) (L' := [(3, .int (x3 + 1)), (0, .ref 185)]) (st' := []) (I' := I13) (J' := J13) (by with_unfolding_all rfl) ?_
        refine pq_perm (L := [(0, .ref 185), (3, .int (x3 + 1))]) (leqn_of ⟨rfl, rfl, trivial⟩ ⟨rfl, rfl, trivial⟩ ⟨rfl, rfl, trivial⟩) ?_
        exact f265_185_l17_pq hB k (by omega) b m (by omega) (by omega) hq hx0 hx1
      · rw [h14, cond_false] at hq
        exact pq_le (by omega) (hx1 hq.symm)
-- LPModel.doesShow
def f265_185 (N : Nat) (I : tI) (J : tJ) (a0 : Int32) : Option (Int32 × tI × tJ) :=
  (match f252 I J a0 with | (v1, I1, J1) => bif xcmp .ne (I1 186 (v1).toNatClampNeg) 2 then (match f261_185 I1 J1 (I1 186 ((v1 + 1)).toNatClampNeg) with | (v3, I3, J3) => bif xcmp .ne v3 0 then (match f260_185 I3 J3 (I3 186 ((v1 + 1)).toNatClampNeg) 5 with | (v5, I5, J5) => bif xcmp .ne (I5 186 (v1).toNatClampNeg) 0 then (match f260_185 I5 J5 (I5 186 ((v1 + 2)).toNatClampNeg) 5 with | (v7, I7, J7) => (match f261_185 I7 J7 (I7 186 ((v1 + 2)).toNatClampNeg) with | (v8, I8, J8) => bif xcmp .eq v8 0 then some (0, I8, J8) else bif xcmp .ne ((if 0 ≤ ((v5 - v5 / 6 * 6) - (v7 - v7 / 6 * 6)) then ((v5 - v5 / 6 * 6) - (v7 - v7 / 6 * 6)) else 0 - ((v5 - v5 / 6 * 6) - (v7 - v7 / 6 * 6))) + (if 0 ≤ ((v5 / 6) - (v7 / 6)) then ((v5 / 6) - (v7 / 6)) else 0 - ((v5 / 6) - (v7 / 6)))) 1 then some (0, I8, J8) else some (1, I8, J8))) else bif xcmp .ne v5 (I5 186 ((v1 + 2)).toNatClampNeg) then some (0, I5, J5) else some (1, I5, J5)) else some (0, I3, J3)) else (match f265_185_l17 N N I1 J1 0 with | none => none | some (k12, y12_3, I12, J12) => bif Nat.beq k12 0 then (some (1, I12, J12)) else some (0, I12, J12)))
set_option maxRecDepth 100000 in
theorem f265_185_pq {sc : List Int32} {B : xM} {N : Nat} {I : tI} {J : tJ} {a0 : Int32} (hB : kB pT B) : ∀ {X : Option (Int32 × tI × tJ)}, f265_185 N I J a0 = X → pq sc B N (xt_265, 5, 3) 0 [(0, .ref 185), (1, .int a0)] [] I J (fun v I1 J1 => ∃ a, v = some (.int a) ∧ X = some (a, I1, J1)) := by
  intro X hq
  unfold f265_185 at hq
  have hle : N ≤ N := Nat.le_refl N
  refine pq_s hB 1 (pc' := 1) (L' := [(0, .ref 185), (1, .int a0)]) (st' := [.int a0]) (I' := I) (J' := J) (by with_unfolding_all rfl) ?_
  generalize hc1 : f252 I J a0 = q1 at hq
  obtain ⟨v1, _, _⟩ := q1
  dsimp only at hq
  refine pq_1 rfl rfl rfl rfl (f252_pq hB hc1) ?_
  rintro _ I1 J1 ⟨rfl, rfl, rfl⟩
  refine pq_s hB 6 (pc' := 12) (L' := [(2, .int v1), (0, .ref 185), (1, .int a0)]) (st' := [.int 2, .int (I1 186 (v1).toNatClampNeg)]) (I' := I1) (J' := J1) (by with_unfolding_all rfl) ?_
  refine pq_icn hB rfl (fun h2 => ?_) (fun h2 => ?_)
  · rw [h2, cond_true] at hq
    refine pq_s hB 7 (pc' := 54) (L' := [(2, .int v1), (0, .ref 185), (1, .int a0)]) (st' := [.int (I1 186 ((v1 + 1)).toNatClampNeg), .ref 185]) (I' := I1) (J' := J1) (by with_unfolding_all rfl) ?_
    generalize hc3 : f261_185 I1 J1 (I1 186 ((v1 + 1)).toNatClampNeg) = q3 at hq
    obtain ⟨v3, _, _⟩ := q3
    dsimp only at hq
    refine pq_1 rfl rfl rfl rfl (f261_185_pq hB hc3) ?_
    rintro _ I3 J3 ⟨rfl, rfl, rfl⟩
    refine pq_ifn hB rfl (fun h4 => ?_) (fun h4 => ?_)
    · rw [h4, cond_true] at hq
      refine pq_s hB 8 (pc' := 72) (L' := [(2, .int v1), (0, .ref 185), (1, .int a0)]) (st' := [.int 5, .int (I3 186 ((v1 + 1)).toNatClampNeg), .ref 185]) (I' := I3) (J' := J3) (by with_unfolding_all rfl) ?_
      generalize hc5 : f260_185 I3 J3 (I3 186 ((v1 + 1)).toNatClampNeg) 5 = q5 at hq
      obtain ⟨v5, _, _⟩ := q5
      dsimp only at hq
      refine pq_1 rfl rfl rfl rfl (f260_185_pq hB hc5) ?_
      rintro _ I5 J5 ⟨rfl, rfl, rfl⟩
      refine pq_s hB 5 (pc' := 82) (L' := [(3, .int v5), (2, .int v1), (0, .ref 185), (1, .int a0)]) (st' := [.int (I5 186 (v1).toNatClampNeg)]) (I' := I5) (J' := J5) (by with_unfolding_all rfl) ?_
      refine pq_ifn hB rfl (fun h6 => ?_) (fun h6 => ?_)
      · rw [h6, cond_true] at hq
        refine pq_s hB 8 (pc' := 113) (L' := [(3, .int v5), (2, .int v1), (0, .ref 185), (1, .int a0)]) (st' := [.int 5, .int (I5 186 ((v1 + 2)).toNatClampNeg), .ref 185]) (I' := I5) (J' := J5) (by with_unfolding_all rfl) ?_
        generalize hc7 : f260_185 I5 J5 (I5 186 ((v1 + 2)).toNatClampNeg) 5 = q7 at hq
        obtain ⟨v7, _, _⟩ := q7
        dsimp only at hq
        refine pq_1 rfl rfl rfl rfl (f260_185_pq hB hc7) ?_
        rintro _ I7 J7 ⟨rfl, rfl, rfl⟩
        refine pq_s hB 8 (pc' := 127) (L' := [(4, .int v7), (3, .int v5), (2, .int v1), (0, .ref 185), (1, .int a0)]) (st' := [.int (I7 186 ((v1 + 2)).toNatClampNeg), .ref 185]) (I' := I7) (J' := J7) (by with_unfolding_all rfl) ?_
        generalize hc8 : f261_185 I7 J7 (I7 186 ((v1 + 2)).toNatClampNeg) = q8 at hq
        obtain ⟨v8, _, _⟩ := q8
        dsimp only at hq
        refine pq_1 rfl rfl rfl rfl (f261_185_pq hB hc8) ?_
        rintro _ I8 J8 ⟨rfl, rfl, rfl⟩
        refine pq_ifn hB rfl (fun h9 => ?_) (fun h9 => ?_)
        · rw [h9, cond_true] at hq
          refine pq_s hB 1 (pc' := 169) (L' := [(4, .int v7), (3, .int v5), (2, .int v1), (0, .ref 185), (1, .int a0)]) (st' := [.int 0]) (I' := I8) (J' := J8) (by with_unfolding_all rfl) ?_
          subst hq
          exact pq_2i (x := 0) rfl ⟨_, rfl, rfl⟩
        · rw [h9, cond_false] at hq
          refine pq_s hB 18 (pc' := 161) (L' := [(4, .int v7), (3, .int v5), (2, .int v1), (0, .ref 185), (1, .int a0)]) (st' := [.int 1, .int ((if 0 ≤ ((v5 - v5 / 6 * 6) - (v7 - v7 / 6 * 6)) then ((v5 - v5 / 6 * 6) - (v7 - v7 / 6 * 6)) else 0 - ((v5 - v5 / 6 * 6) - (v7 - v7 / 6 * 6))) + (if 0 ≤ ((v5 / 6) - (v7 / 6)) then ((v5 / 6) - (v7 / 6)) else 0 - ((v5 / 6) - (v7 / 6))))]) (I' := I8) (J' := J8) (by with_unfolding_all rfl) ?_
          refine pq_icn hB rfl (fun h10 => ?_) (fun h10 => ?_)
          · rw [h10, cond_true] at hq
            refine pq_s hB 1 (pc' := 169) (L' := [(4, .int v7), (3, .int v5), (2, .int v1), (0, .ref 185), (1, .int a0)]) (st' := [.int 0]) (I' := I8) (J' := J8) (by with_unfolding_all rfl) ?_
            subst hq
            exact pq_2i (x := 0) rfl ⟨_, rfl, rfl⟩
          · rw [h10, cond_false] at hq
            refine pq_s hB 2 (pc' := 169) (L' := [(4, .int v7), (3, .int v5), (2, .int v1), (0, .ref 185), (1, .int a0)]) (st' := [.int 1]) (I' := I8) (J' := J8) (by with_unfolding_all rfl) ?_
            subst hq
            exact pq_2i (x := 1) rfl ⟨_, rfl, rfl⟩
      · rw [h6, cond_false] at hq
        refine pq_s hB 7 (pc' := 94) (L' := [(3, .int v5), (2, .int v1), (0, .ref 185), (1, .int a0)]) (st' := [.int (I5 186 ((v1 + 2)).toNatClampNeg), .int v5]) (I' := I5) (J' := J5) (by with_unfolding_all rfl) ?_
        refine pq_icn hB rfl (fun h11 => ?_) (fun h11 => ?_)
        · rw [h11, cond_true] at hq
          refine pq_s hB 1 (pc' := 102) (L' := [(3, .int v5), (2, .int v1), (0, .ref 185), (1, .int a0)]) (st' := [.int 0]) (I' := I5) (J' := J5) (by with_unfolding_all rfl) ?_
          subst hq
          exact pq_2i (x := 0) rfl ⟨_, rfl, rfl⟩
        · rw [h11, cond_false] at hq
          refine pq_s hB 2 (pc' := 102) (L' := [(3, .int v5), (2, .int v1), (0, .ref 185), (1, .int a0)]) (st' := [.int 1]) (I' := I5) (J' := J5) (by with_unfolding_all rfl) ?_
          subst hq
          exact pq_2i (x := 1) rfl ⟨_, rfl, rfl⟩
    · rw [h4, cond_false] at hq
      refine pq_s hB 1 (pc' := 61) (L' := [(2, .int v1), (0, .ref 185), (1, .int a0)]) (st' := [.int 0]) (I' := I3) (J' := J3) (by with_unfolding_all rfl) ?_
      subst hq
      exact pq_2i (x := 0) rfl ⟨_, rfl, rfl⟩
  · rw [h2, cond_false] at hq
    refine pq_s hB 2 (pc' := 17) (L' := [(3, .int 0), (2, .int v1), (0, .ref 185), (1, .int a0)]) (st' := []) (I' := I1) (J' := J1) (by with_unfolding_all rfl) ?_
    refine pq_perm (L := [(0, .ref 185), (3, .int 0)]) (leqn_of ⟨rfl, rfl, trivial⟩ ⟨rfl, rfl, trivial⟩ ⟨rfl, rfl, rfl, rfl, trivial⟩) ?_
    refine f265_185_l17_pq hB N (Nat.le_refl N) N N hle (Nat.le_refl N) rfl ?_ ?_
    ·
      intro y12_3 I12 J12 hc12
      rw [hc12] at hq
      dsimp only at hq
      rw [show Nat.beq 0 0 = true from rfl, cond_true] at hq
      refine pq_s hB 1 (pc' := 44) (L' := [(0, .ref 185), (3, .int y12_3)]) (st' := [.int 1]) (I' := I12) (J' := J12) (by with_unfolding_all rfl) ?_
      subst hq
      exact pq_2i (x := 1) rfl ⟨_, rfl, rfl⟩
    ·
      intro y12_3 I12 J12 hc12
      rw [hc12] at hq
      dsimp only at hq
      rw [show Nat.beq 1 0 = false from rfl, cond_false] at hq
      refine pq_s hB 1 (pc' := 36) (L' := [(0, .ref 185), (3, .int y12_3)]) (st' := [.int 0]) (I' := I12) (J' := J12) (by with_unfolding_all rfl) ?_
      subst hq
      exact pq_2i (x := 0) rfl ⟨_, rfl, rfl⟩
-- LPModel.shown, the loop at 4, to [38]
def f266_185_l4 (N : Nat) : Nat → tI → tJ → Int32 → Int32 → Option (Int32 × Int32 × tI × tJ)
  | 0, _, _, _, _ => none
  | k + 1, I, J, x1, x2 =>
    bif xcmp .ge x2 (I 186 3) then some (x1, x2, I, J) else (match f265_185 N I J x2 with | none => none | some (v2, I2, J2) => bif xcmp .eq v2 0 then f266_185_l4 N k I2 J2 (x1 ||| 0) (x2 + 1) else f266_185_l4 N k I2 J2 (x1 ||| (1 <<< (x2 &&& 31))) (x2 + 1))
set_option maxRecDepth 100000 in
theorem f266_185_l4_pq {sc : List Int32} {B : xM} {N : Nat} {P : Option Value → tI → tJ → Prop} (hB : kB pT B) : ∀ (k : Nat), k ≤ N → ∀ (b m : Nat), b ≤ k → b ≤ m → ∀ {I : tI} {J : tJ} {x1 : Int32} {x2 : Int32} {Y : Option (Int32 × Int32 × tI × tJ)}, f266_185_l4 N k I J x1 x2 = Y → (∀ {y1 : Int32} {y2 : Int32} {I1 : tI} {J1 : tJ}, Y = some (y1, y2, I1, J1) → pq sc B m (xt_266, 3, 1) 38 [(0, .ref 185), (1, .int y1), (2, .int y2)] [] I1 J1 P) → pq sc B b (xt_266, 3, 1) 4 [(0, .ref 185), (1, .int x1), (2, .int x2)] [] I J P
  | 0, _, b, _, hb, _, _, _, _, _, _, _, _ => by
    have e : b = 0 := by omega
    subst e
    exact pq_zero
  | _ + 1, _, 0, _, _, _, _, _, _, _, _, _, _ => pq_zero
  | k + 1, hk, b + 1, m, hb, hm, I, J, x1, x2, Y, hq, hx0 => by
    unfold f266_185_l4 at hq
    have hle : b ≤ N := by omega
    refine pq_s1 hB 4 (pc' := 11) (L' := [(0, .ref 185), (1, .int x1), (2, .int x2)]) (st' := [.int (I 186 3), .int x2]) (I' := I) (J' := J) (by with_unfolding_all rfl) ?_
    refine pq_icn hB rfl (fun h1 => ?_) (fun h1 => ?_)
    · rw [h1, cond_true] at hq
      exact pq_le (by omega) (hx0 hq.symm)
    · rw [h1, cond_false] at hq
      refine pq_s hB 3 (pc' := 17) (L' := [(0, .ref 185), (1, .int x1), (2, .int x2)]) (st' := [.int x2, .ref 185, .int x1]) (I' := I) (J' := J) (by with_unfolding_all rfl) ?_
      refine pq_1 rfl rfl rfl rfl (pq_le hle (f265_185_pq hB rfl)) ?_
      rintro _ I2 J2 ⟨v2, rfl, hc2⟩
      rw [hc2] at hq
      dsimp only at hq
      refine pq_ifn hB rfl (fun h3 => ?_) (fun h3 => ?_)
      · rw [h3, cond_true] at hq
        refine pq_s hB 5 (pc' := 4) (L' := [(2, .int (x2 + 1)), (1, .int (x1 ||| 0)), (0, .ref 185)]) (st' := []) (I' := I2) (J' := J2) (by with_unfolding_all rfl) ?_
        refine pq_perm (L := [(0, .ref 185), (1, .int (x1 ||| 0)), (2, .int (x2 + 1))]) (leqn_of ⟨rfl, rfl, rfl, trivial⟩ ⟨rfl, rfl, rfl, trivial⟩ ⟨rfl, rfl, rfl, trivial⟩) ?_
        exact f266_185_l4_pq hB k (by omega) b m (by omega) (by omega) hq hx0
      · rw [h3, cond_false] at hq
        refine pq_s hB 8 (pc' := 4) (L' := [(2, .int (x2 + 1)), (1, .int (x1 ||| (1 <<< (x2 &&& 31)))), (0, .ref 185)]) (st' := []) (I' := I2) (J' := J2) (by with_unfolding_all rfl) ?_
        refine pq_perm (L := [(0, .ref 185), (1, .int (x1 ||| (1 <<< (x2 &&& 31)))), (2, .int (x2 + 1))]) (leqn_of ⟨rfl, rfl, rfl, trivial⟩ ⟨rfl, rfl, rfl, trivial⟩ ⟨rfl, rfl, rfl, trivial⟩) ?_
        exact f266_185_l4_pq hB k (by omega) b m (by omega) (by omega) hq hx0
-- LPModel.shown
def f266_185 (N : Nat) (I : tI) (J : tJ) : Option (Int32 × tI × tJ) :=
  (match f266_185_l4 N N I J 0 0 with | none => none | some (y1_1, y1_2, I1, J1) => some (y1_1, I1, J1))
set_option maxRecDepth 100000 in
theorem f266_185_pq {sc : List Int32} {B : xM} {N : Nat} {I : tI} {J : tJ} (hB : kB pT B) : ∀ {X : Option (Int32 × tI × tJ)}, f266_185 N I J = X → pq sc B N (xt_266, 3, 1) 0 [(0, .ref 185)] [] I J (fun v I1 J1 => ∃ a, v = some (.int a) ∧ X = some (a, I1, J1)) := by
  intro X hq
  unfold f266_185 at hq
  have hle : N ≤ N := Nat.le_refl N
  refine pq_s hB 4 (pc' := 4) (L' := [(2, .int 0), (1, .int 0), (0, .ref 185)]) (st' := []) (I' := I) (J' := J) (by with_unfolding_all rfl) ?_
  refine pq_perm (L := [(0, .ref 185), (1, .int 0), (2, .int 0)]) (leqn_of ⟨rfl, rfl, rfl, trivial⟩ ⟨rfl, rfl, rfl, trivial⟩ ⟨rfl, rfl, rfl, trivial⟩) ?_
  refine f266_185_l4_pq hB N (Nat.le_refl N) N N hle (Nat.le_refl N) rfl ?_
  intro y1_1 y1_2 I1 J1 hc1
  rw [hc1] at hq
  dsimp only at hq
  refine pq_s hB 1 (pc' := 39) (L' := [(0, .ref 185), (1, .int y1_1), (2, .int y1_2)]) (st' := [.int y1_1]) (I' := I1) (J' := J1) (by with_unfolding_all rfl) ?_
  subst hq
  exact pq_2i (x := y1_1) rfl ⟨_, rfl, rfl⟩
-- LPModel.showsIn
def f304_185 (N : Nat) (I : tI) (J : tJ) (a0 : Int32) : Option (Int32 × tI × tJ) :=
  (match f298 I J a0 0 with | (v1, I1, J1) => bif xcmp .ne v1 0 then (match f296_185 N I1 J1 3720 with | none => none | some (_, I3, J3) => (match f285_185 N I3 J3 a0 with | none => none | some (_, I4, J4) => (match f266_185 N I4 J4 with | none => none | some (v5, I5, J5) => (match f297_185 N I5 J5 3720 with | none => none | some (_, I6, J6) => (match f206_185 I6 J6 v5 with | (v7, I7, J7) => some (v7, I7, J7)))))) else (match f205_185 I1 J1 1 with | (v8, I8, J8) => some (v8, I8, J8)))
set_option maxRecDepth 100000 in
theorem f304_185_pq {sc : List Int32} {B : xM} {N : Nat} {I : tI} {J : tJ} {a0 : Int32} (hB : kB pT B) : ∀ {X : Option (Int32 × tI × tJ)}, f304_185 N I J a0 = X → pq sc B N (xt_304, 3, 1) 0 [(0, .ref 185), (1, .int a0)] [] I J (fun v I1 J1 => ∃ a, v = some (.int a) ∧ X = some (a, I1, J1)) := by
  intro X hq
  unfold f304_185 at hq
  have hle : N ≤ N := Nat.le_refl N
  refine pq_s hB 2 (pc' := 2) (L' := [(0, .ref 185), (1, .int a0)]) (st' := [.int 0, .int a0]) (I' := I) (J' := J) (by with_unfolding_all rfl) ?_
  generalize hc1 : f298 I J a0 0 = q1 at hq
  obtain ⟨v1, _, _⟩ := q1
  dsimp only at hq
  refine pq_1 rfl rfl rfl rfl (f298_pq hB hc1) ?_
  rintro _ I1 J1 ⟨rfl, rfl, rfl⟩
  refine pq_ifn hB rfl (fun h2 => ?_) (fun h2 => ?_)
  · rw [h2, cond_true] at hq
    refine pq_s hB 2 (pc' := 18) (L' := [(0, .ref 185), (1, .int a0)]) (st' := [.int 3720, .ref 185]) (I' := I1) (J' := J1) (by with_unfolding_all rfl) ?_
    refine pq_1 rfl rfl rfl rfl (pq_le hle (f296_185_pq hB rfl)) ?_
    rintro _ I3 J3 ⟨rfl, hc3⟩
    rw [hc3] at hq
    dsimp only at hq
    refine pq_s hB 2 (pc' := 23) (L' := [(0, .ref 185), (1, .int a0)]) (st' := [.int a0, .ref 185]) (I' := I3) (J' := J3) (by with_unfolding_all rfl) ?_
    refine pq_1 rfl rfl rfl rfl (pq_le hle (f285_185_pq hB rfl)) ?_
    rintro _ I4 J4 ⟨rfl, hc4⟩
    rw [hc4] at hq
    dsimp only at hq
    refine pq_s hB 1 (pc' := 27) (L' := [(0, .ref 185), (1, .int a0)]) (st' := [.ref 185]) (I' := I4) (J' := J4) (by with_unfolding_all rfl) ?_
    refine pq_1 rfl rfl rfl rfl (pq_le hle (f266_185_pq hB rfl)) ?_
    rintro _ I5 J5 ⟨v5, rfl, hc5⟩
    rw [hc5] at hq
    dsimp only at hq
    refine pq_s hB 3 (pc' := 35) (L' := [(2, .int v5), (0, .ref 185), (1, .int a0)]) (st' := [.int 3720, .ref 185]) (I' := I5) (J' := J5) (by with_unfolding_all rfl) ?_
    refine pq_1 rfl rfl rfl rfl (pq_le hle (f297_185_pq hB rfl)) ?_
    rintro _ I6 J6 ⟨rfl, hc6⟩
    rw [hc6] at hq
    dsimp only at hq
    refine pq_s hB 2 (pc' := 40) (L' := [(2, .int v5), (0, .ref 185), (1, .int a0)]) (st' := [.int v5, .ref 185]) (I' := I6) (J' := J6) (by with_unfolding_all rfl) ?_
    generalize hc7 : f206_185 I6 J6 v5 = q7 at hq
    obtain ⟨v7, _, _⟩ := q7
    dsimp only at hq
    refine pq_1 rfl rfl rfl rfl (f206_185_pq hB hc7) ?_
    rintro _ I7 J7 ⟨rfl, rfl, rfl⟩
    subst hq
    exact pq_2i (x := v7) rfl ⟨_, rfl, rfl⟩
  · rw [h2, cond_false] at hq
    refine pq_s hB 2 (pc' := 10) (L' := [(0, .ref 185), (1, .int a0)]) (st' := [.int 1, .ref 185]) (I' := I1) (J' := J1) (by with_unfolding_all rfl) ?_
    generalize hc8 : f205_185 I1 J1 1 = q8 at hq
    obtain ⟨v8, _, _⟩ := q8
    dsimp only at hq
    refine pq_1 rfl rfl rfl rfl (f205_185_pq hB hc8) ?_
    rintro _ I8 J8 ⟨rfl, rfl, rfl⟩
    subst hq
    exact pq_2i (x := v8) rfl ⟨_, rfl, rfl⟩
-- LPModel.isSight
def f255_185 (I : tI) (J : tJ) (a0 : Int32) : Int32 × tI × tJ :=
  bif xcmp .lt a0 0 then (0, I, J) else bif xcmp .ge a0 (I 186 3) then (0, I, J) else (1, I, J)
set_option maxRecDepth 100000 in
theorem f255_185_pq {sc : List Int32} {B : xM} {n : Nat} {I : tI} {J : tJ} {a0 : Int32} (hB : kB pT B) : ∀ {q : Int32 × tI × tJ}, f255_185 I J a0 = q → pq sc B n (xt_255, 2, 3) 0 [(0, .ref 185), (1, .int a0)] [] I J (fun v I1 J1 => v = some (.int q.1) ∧ I1 = q.2.1 ∧ J1 = q.2.2) := by
  intro q hq
  unfold f255_185 at hq
  refine pq_s hB 1 (pc' := 1) (L' := [(0, .ref 185), (1, .int a0)]) (st' := [.int a0]) (I' := I) (J' := J) (by with_unfolding_all rfl) ?_
  refine pq_ifn hB rfl (fun h1 => ?_) (fun h1 => ?_)
  · rw [h1, cond_true] at hq
    refine pq_s hB 1 (pc' := 19) (L' := [(0, .ref 185), (1, .int a0)]) (st' := [.int 0]) (I' := I) (J' := J) (by with_unfolding_all rfl) ?_
    subst hq
    exact pq_2i (x := 0) rfl ⟨rfl, rfl, rfl⟩
  · rw [h1, cond_false] at hq
    refine pq_s hB 5 (pc' := 11) (L' := [(0, .ref 185), (1, .int a0)]) (st' := [.int (I 186 3), .int a0]) (I' := I) (J' := J) (by with_unfolding_all rfl) ?_
    refine pq_icn hB rfl (fun h2 => ?_) (fun h2 => ?_)
    · rw [h2, cond_true] at hq
      refine pq_s hB 1 (pc' := 19) (L' := [(0, .ref 185), (1, .int a0)]) (st' := [.int 0]) (I' := I) (J' := J) (by with_unfolding_all rfl) ?_
      subst hq
      exact pq_2i (x := 0) rfl ⟨rfl, rfl, rfl⟩
    · rw [h2, cond_false] at hq
      refine pq_s hB 2 (pc' := 19) (L' := [(0, .ref 185), (1, .int a0)]) (st' := [.int 1]) (I' := I) (J' := J) (by with_unfolding_all rfl) ?_
      subst hq
      exact pq_2i (x := 1) rfl ⟨rfl, rfl, rfl⟩
-- LPModel.laysShows, the loop at 9, to [34]
def f305_185_l9 (N : Nat) : Nat → tI → tJ → Int32 → Int32 → Option (Int32 × Int32 × tI × tJ)
  | 0, _, _, _, _ => none
  | k + 1, I, J, x1, x2 =>
    bif xcmp .gt x2 x1 then some (x1, x2, I, J) else (match f284_185 N I J with | none => none | some (_, I3, J3) => (match f266_185 N I3 J3 with | none => none | some (v4, I4, J4) => f305_185_l9 N k (tup I4 194 ((x2).toNatClampNeg) v4) J4 x1 (x2 + 1)))
set_option maxRecDepth 100000 in
theorem f305_185_l9_pq {sc : List Int32} {B : xM} {N : Nat} {P : Option Value → tI → tJ → Prop} (hB : kB pT B) : ∀ (k : Nat), k ≤ N → ∀ (b m : Nat), b ≤ k → b ≤ m → ∀ {I : tI} {J : tJ} {x1 : Int32} {x2 : Int32} {Y : Option (Int32 × Int32 × tI × tJ)}, f305_185_l9 N k I J x1 x2 = Y → (∀ {y1 : Int32} {y2 : Int32} {I1 : tI} {J1 : tJ}, Y = some (y1, y2, I1, J1) → pq sc B m (xt_305, 3, 0) 34 [(0, .ref 185), (1, .int y1), (2, .int y2)] [] I1 J1 P) → pq sc B b (xt_305, 3, 0) 9 [(0, .ref 185), (1, .int x1), (2, .int x2)] [] I J P
  | 0, _, b, _, hb, _, _, _, _, _, _, _, _ => by
    have e : b = 0 := by omega
    subst e
    exact pq_zero
  | _ + 1, _, 0, _, _, _, _, _, _, _, _, _, _ => pq_zero
  | k + 1, hk, b + 1, m, hb, hm, I, J, x1, x2, Y, hq, hx0 => by
    unfold f305_185_l9 at hq
    have hle : b ≤ N := by omega
    refine pq_s1 hB 1 (pc' := 11) (L' := [(0, .ref 185), (1, .int x1), (2, .int x2)]) (st' := [.int x1, .int x2]) (I' := I) (J' := J) (by with_unfolding_all rfl) ?_
    refine pq_icn hB rfl (fun h2 => ?_) (fun h2 => ?_)
    · rw [h2, cond_true] at hq
      exact pq_le (by omega) (hx0 hq.symm)
    · rw [h2, cond_false] at hq
      refine pq_s hB 1 (pc' := 15) (L' := [(0, .ref 185), (1, .int x1), (2, .int x2)]) (st' := [.ref 185]) (I' := I) (J' := J) (by with_unfolding_all rfl) ?_
      refine pq_1 rfl rfl rfl rfl (pq_le hle (f284_185_pq hB rfl)) ?_
      rintro _ I3 J3 ⟨rfl, hc3⟩
      rw [hc3] at hq
      dsimp only at hq
      refine pq_s hB 4 (pc' := 24) (L' := [(0, .ref 185), (1, .int x1), (2, .int x2)]) (st' := [.ref 185, .int x2, .ref 194]) (I' := I3) (J' := J3) (by with_unfolding_all rfl) ?_
      refine pq_1 rfl rfl rfl rfl (pq_le hle (f266_185_pq hB rfl)) ?_
      rintro _ I4 J4 ⟨v4, rfl, hc4⟩
      rw [hc4] at hq
      dsimp only at hq
      refine pq_s hB 3 (pc' := 9) (L' := [(2, .int (x2 + 1)), (0, .ref 185), (1, .int x1)]) (st' := []) (I' := (tup I4 194 ((x2).toNatClampNeg) v4)) (J' := J4) (by with_unfolding_all rfl) ?_
      refine pq_perm (L := [(0, .ref 185), (1, .int x1), (2, .int (x2 + 1))]) (leqn_of ⟨rfl, rfl, rfl, trivial⟩ ⟨rfl, rfl, rfl, trivial⟩ ⟨rfl, rfl, rfl, trivial⟩) ?_
      exact f305_185_l9_pq hB k (by omega) b m (by omega) (by omega) hq hx0
-- LPModel.laysShows
def f305_185 (N : Nat) (I : tI) (J : tJ) (a0 : Int32) : Option (Unit × tI × tJ) :=
  (match f296_185 N I J 3720 with | none => none | some (_, I1, J1) => (match f305_185_l9 N N I1 J1 a0 1 with | none => none | some (y2_1, y2_2, I2, J2) => (match f297_185 N I2 J2 3720 with | none => none | some (_, I3, J3) => some ((), I3, J3))))
set_option maxRecDepth 100000 in
theorem f305_185_pq {sc : List Int32} {B : xM} {N : Nat} {I : tI} {J : tJ} {a0 : Int32} (hB : kB pT B) : ∀ {X : Option (Unit × tI × tJ)}, f305_185 N I J a0 = X → pq sc B N (xt_305, 3, 0) 0 [(0, .ref 185), (1, .int a0)] [] I J (fun v I1 J1 => v = none ∧ X = some ((), I1, J1)) := by
  intro X hq
  unfold f305_185 at hq
  have hle : N ≤ N := Nat.le_refl N
  refine pq_s hB 2 (pc' := 4) (L' := [(0, .ref 185), (1, .int a0)]) (st' := [.int 3720, .ref 185]) (I' := I) (J' := J) (by with_unfolding_all rfl) ?_
  refine pq_1 rfl rfl rfl rfl (pq_le hle (f296_185_pq hB rfl)) ?_
  rintro _ I1 J1 ⟨rfl, hc1⟩
  rw [hc1] at hq
  dsimp only at hq
  refine pq_s hB 2 (pc' := 9) (L' := [(2, .int 1), (0, .ref 185), (1, .int a0)]) (st' := []) (I' := I1) (J' := J1) (by with_unfolding_all rfl) ?_
  refine pq_perm (L := [(0, .ref 185), (1, .int a0), (2, .int 1)]) (leqn_of ⟨rfl, rfl, rfl, trivial⟩ ⟨rfl, rfl, rfl, trivial⟩ ⟨rfl, rfl, rfl, trivial⟩) ?_
  refine f305_185_l9_pq hB N (Nat.le_refl N) N N hle (Nat.le_refl N) rfl ?_
  intro y2_1 y2_2 I2 J2 hc2
  rw [hc2] at hq
  dsimp only at hq
  refine pq_s hB 2 (pc' := 38) (L' := [(0, .ref 185), (1, .int y2_1), (2, .int y2_2)]) (st' := [.int 3720, .ref 185]) (I' := I2) (J' := J2) (by with_unfolding_all rfl) ?_
  refine pq_1 rfl rfl rfl rfl (pq_le hle (f297_185_pq hB rfl)) ?_
  rintro _ I3 J3 ⟨rfl, hc3⟩
  rw [hc3] at hq
  dsimp only at hq
  subst hq
  exact pq_2 (v := none) rfl rfl (by with_unfolding_all rfl) ⟨rfl, rfl⟩
-- LPModel.isIn
def f258_185 (I : tI) (J : tJ) (a0 : Int32) (a1 : Int32) : Int32 × tI × tJ :=
  bif xcmp .ne ((a0 >>> (a1 &&& 31)) &&& 1) 1 then (0, I, J) else (1, I, J)
set_option maxRecDepth 100000 in
theorem f258_185_pq {sc : List Int32} {B : xM} {n : Nat} {I : tI} {J : tJ} {a0 : Int32} {a1 : Int32} (hB : kB pT B) : ∀ {q : Int32 × tI × tJ}, f258_185 I J a0 a1 = q → pq sc B n (xt_258, 3, 3) 0 [(0, .ref 185), (1, .int a0), (2, .int a1)] [] I J (fun v I1 J1 => v = some (.int q.1) ∧ I1 = q.2.1 ∧ J1 = q.2.2) := by
  intro q hq
  unfold f258_185 at hq
  refine pq_s hB 6 (pc' := 6) (L' := [(0, .ref 185), (1, .int a0), (2, .int a1)]) (st' := [.int 1, .int ((a0 >>> (a1 &&& 31)) &&& 1)]) (I' := I) (J' := J) (by with_unfolding_all rfl) ?_
  refine pq_icn hB rfl (fun h1 => ?_) (fun h1 => ?_)
  · rw [h1, cond_true] at hq
    refine pq_s hB 1 (pc' := 14) (L' := [(0, .ref 185), (1, .int a0), (2, .int a1)]) (st' := [.int 0]) (I' := I) (J' := J) (by with_unfolding_all rfl) ?_
    subst hq
    exact pq_2i (x := 0) rfl ⟨rfl, rfl, rfl⟩
  · rw [h1, cond_false] at hq
    refine pq_s hB 2 (pc' := 14) (L' := [(0, .ref 185), (1, .int a0), (2, .int a1)]) (st' := [.int 1]) (I' := I) (J' := J) (by with_unfolding_all rfl) ?_
    subst hq
    exact pq_2i (x := 1) rfl ⟨rfl, rfl, rfl⟩
-- LPModel.firstOf, the loop at 9, to [38, 30]
def f306_185_l9 (N : Nat) : Nat → tI → tJ → Int32 → Int32 → Option (Nat × Int32 × Int32 × tI × tJ)
  | 0, _, _, _, _ => none
  | k + 1, I, J, x1, x2 =>
    bif xcmp .gt x2 200 then some (0, x1, x2, I, J) else (match f258_185 I J (I 194 (x2).toNatClampNeg) x1 with | (v3, I3, J3) => bif xcmp .eq v3 0 then f306_185_l9 N k I3 J3 x1 (x2 + 1) else some (1, x1, x2, I3, J3))
set_option maxRecDepth 100000 in
theorem f306_185_l9_pq {sc : List Int32} {B : xM} {N : Nat} {P : Option Value → tI → tJ → Prop} (hB : kB pT B) : ∀ (k : Nat), k ≤ N → ∀ (b m : Nat), b ≤ k → b ≤ m → ∀ {I : tI} {J : tJ} {x1 : Int32} {x2 : Int32} {Y : Option (Nat × Int32 × Int32 × tI × tJ)}, f306_185_l9 N k I J x1 x2 = Y → (∀ {y1 : Int32} {y2 : Int32} {I1 : tI} {J1 : tJ}, Y = some (0, y1, y2, I1, J1) → pq sc B m (xt_306, 3, 1) 38 [(0, .ref 185), (1, .int y1), (2, .int y2)] [] I1 J1 P) → (∀ {y1 : Int32} {y2 : Int32} {I1 : tI} {J1 : tJ}, Y = some (1, y1, y2, I1, J1) → pq sc B m (xt_306, 3, 1) 30 [(0, .ref 185), (1, .int y1), (2, .int y2)] [] I1 J1 P) → pq sc B b (xt_306, 3, 1) 9 [(0, .ref 185), (1, .int x1), (2, .int x2)] [] I J P
  | 0, _, b, _, hb, _, _, _, _, _, _, _, _, _ => by
    have e : b = 0 := by omega
    subst e
    exact pq_zero
  | _ + 1, _, 0, _, _, _, _, _, _, _, _, _, _, _ => pq_zero
  | k + 1, hk, b + 1, m, hb, hm, I, J, x1, x2, Y, hq, hx0, hx1 => by
    unfold f306_185_l9 at hq
    have hle : b ≤ N := by omega
    refine pq_s1 hB 1 (pc' := 13) (L' := [(0, .ref 185), (1, .int x1), (2, .int x2)]) (st' := [.int 200, .int x2]) (I' := I) (J' := J) (by with_unfolding_all rfl) ?_
    refine pq_icn hB rfl (fun h2 => ?_) (fun h2 => ?_)
    · rw [h2, cond_true] at hq
      exact pq_le (by omega) (hx0 hq.symm)
    · rw [h2, cond_false] at hq
      refine pq_s hB 6 (pc' := 24) (L' := [(0, .ref 185), (1, .int x1), (2, .int x2)]) (st' := [.int x1, .int (I 194 (x2).toNatClampNeg), .ref 185]) (I' := I) (J' := J) (by with_unfolding_all rfl) ?_
      generalize hc3 : f258_185 I J (I 194 (x2).toNatClampNeg) x1 = q3 at hq
      obtain ⟨v3, _, _⟩ := q3
      dsimp only at hq
      refine pq_1 rfl rfl rfl rfl (f258_185_pq hB hc3) ?_
      rintro _ I3 J3 ⟨rfl, rfl, rfl⟩
      refine pq_ifn hB rfl (fun h4 => ?_) (fun h4 => ?_)
      · rw [h4, cond_true] at hq
        refine pq_s hB 2 (pc' := 9) (L' := [(2, .int (x2 + 1)), (0, .ref 185), (1, .int x1)]) (st' := []) (I' := I3) (J' := J3) (by with_unfolding_all rfl) ?_
        refine pq_perm (L := [(0, .ref 185), (1, .int x1), (2, .int (x2 + 1))]) (leqn_of ⟨rfl, rfl, rfl, trivial⟩ ⟨rfl, rfl, rfl, trivial⟩ ⟨rfl, rfl, rfl, trivial⟩) ?_
        exact f306_185_l9_pq hB k (by omega) b m (by omega) (by omega) hq hx0 hx1
      · rw [h4, cond_false] at hq
        exact pq_le (by omega) (hx1 hq.symm)
-- LPModel.firstOf
def f306_185 (N : Nat) (I : tI) (J : tJ) (a0 : Int32) : Option (Int32 × tI × tJ) :=
  (match f305_185 N I J 200 with | none => none | some (_, I1, J1) => (match f306_185_l9 N N I1 J1 a0 1 with | none => none | some (k2, y2_1, y2_2, I2, J2) => bif Nat.beq k2 0 then (some ((-1), I2, J2)) else some (y2_2, I2, J2)))
set_option maxRecDepth 100000 in
theorem f306_185_pq {sc : List Int32} {B : xM} {N : Nat} {I : tI} {J : tJ} {a0 : Int32} (hB : kB pT B) : ∀ {X : Option (Int32 × tI × tJ)}, f306_185 N I J a0 = X → pq sc B N (xt_306, 3, 1) 0 [(0, .ref 185), (1, .int a0)] [] I J (fun v I1 J1 => ∃ a, v = some (.int a) ∧ X = some (a, I1, J1)) := by
  intro X hq
  unfold f306_185 at hq
  have hle : N ≤ N := Nat.le_refl N
  refine pq_s hB 2 (pc' := 4) (L' := [(0, .ref 185), (1, .int a0)]) (st' := [.int 200, .ref 185]) (I' := I) (J' := J) (by with_unfolding_all rfl) ?_
  refine pq_1 rfl rfl rfl rfl (pq_le hle (f305_185_pq hB rfl)) ?_
  rintro _ I1 J1 ⟨rfl, hc1⟩
  rw [hc1] at hq
  dsimp only at hq
  refine pq_s hB 2 (pc' := 9) (L' := [(2, .int 1), (0, .ref 185), (1, .int a0)]) (st' := []) (I' := I1) (J' := J1) (by with_unfolding_all rfl) ?_
  refine pq_perm (L := [(0, .ref 185), (1, .int a0), (2, .int 1)]) (leqn_of ⟨rfl, rfl, rfl, trivial⟩ ⟨rfl, rfl, rfl, trivial⟩ ⟨rfl, rfl, rfl, trivial⟩) ?_
  refine f306_185_l9_pq hB N (Nat.le_refl N) N N hle (Nat.le_refl N) rfl ?_ ?_
  ·
    intro y2_1 y2_2 I2 J2 hc2
    rw [hc2] at hq
    dsimp only at hq
    rw [show Nat.beq 0 0 = true from rfl, cond_true] at hq
    refine pq_s hB 1 (pc' := 39) (L' := [(0, .ref 185), (1, .int y2_1), (2, .int y2_2)]) (st' := [.int (-1)]) (I' := I2) (J' := J2) (by with_unfolding_all rfl) ?_
    subst hq
    exact pq_2i (x := (-1)) rfl ⟨_, rfl, rfl⟩
  ·
    intro y2_1 y2_2 I2 J2 hc2
    rw [hc2] at hq
    dsimp only at hq
    rw [show Nat.beq 1 0 = false from rfl, cond_false] at hq
    refine pq_s hB 1 (pc' := 31) (L' := [(0, .ref 185), (1, .int y2_1), (2, .int y2_2)]) (st' := [.int y2_2]) (I' := I2) (J' := J2) (by with_unfolding_all rfl) ?_
    subst hq
    exact pq_2i (x := y2_2) rfl ⟨_, rfl, rfl⟩
-- LPModel.first
def f307_185 (N : Nat) (I : tI) (J : tJ) (a0 : Int32) : Option (Int32 × tI × tJ) :=
  (match f255_185 I J a0 with | (v1, I1, J1) => bif xcmp .eq v1 0 then (match f205_185 I1 J1 1 with | (v3, I3, J3) => some (v3, I3, J3)) else (match f306_185 N I1 J1 a0 with | none => none | some (v4, I4, J4) => (match f207_185 I4 J4 v4 with | (v5, I5, J5) => some (v5, I5, J5))))
set_option maxRecDepth 100000 in
theorem f307_185_pq {sc : List Int32} {B : xM} {N : Nat} {I : tI} {J : tJ} {a0 : Int32} (hB : kB pT B) : ∀ {X : Option (Int32 × tI × tJ)}, f307_185 N I J a0 = X → pq sc B N (xt_307, 2, 1) 0 [(0, .ref 185), (1, .int a0)] [] I J (fun v I1 J1 => ∃ a, v = some (.int a) ∧ X = some (a, I1, J1)) := by
  intro X hq
  unfold f307_185 at hq
  have hle : N ≤ N := Nat.le_refl N
  refine pq_s hB 2 (pc' := 2) (L' := [(0, .ref 185), (1, .int a0)]) (st' := [.int a0, .ref 185]) (I' := I) (J' := J) (by with_unfolding_all rfl) ?_
  generalize hc1 : f255_185 I J a0 = q1 at hq
  obtain ⟨v1, _, _⟩ := q1
  dsimp only at hq
  refine pq_1 rfl rfl rfl rfl (f255_185_pq hB hc1) ?_
  rintro _ I1 J1 ⟨rfl, rfl, rfl⟩
  refine pq_ifn hB rfl (fun h2 => ?_) (fun h2 => ?_)
  · rw [h2, cond_true] at hq
    refine pq_s hB 2 (pc' := 22) (L' := [(0, .ref 185), (1, .int a0)]) (st' := [.int 1, .ref 185]) (I' := I1) (J' := J1) (by with_unfolding_all rfl) ?_
    generalize hc3 : f205_185 I1 J1 1 = q3 at hq
    obtain ⟨v3, _, _⟩ := q3
    dsimp only at hq
    refine pq_1 rfl rfl rfl rfl (f205_185_pq hB hc3) ?_
    rintro _ I3 J3 ⟨rfl, rfl, rfl⟩
    subst hq
    exact pq_2i (x := v3) rfl ⟨_, rfl, rfl⟩
  · rw [h2, cond_false] at hq
    refine pq_s hB 3 (pc' := 11) (L' := [(0, .ref 185), (1, .int a0)]) (st' := [.int a0, .ref 185, .ref 185]) (I' := I1) (J' := J1) (by with_unfolding_all rfl) ?_
    refine pq_1 rfl rfl rfl rfl (pq_le hle (f306_185_pq hB rfl)) ?_
    rintro _ I4 J4 ⟨v4, rfl, hc4⟩
    rw [hc4] at hq
    dsimp only at hq
    generalize hc5 : f207_185 I4 J4 v4 = q5 at hq
    obtain ⟨v5, _, _⟩ := q5
    dsimp only at hq
    refine pq_1 rfl rfl rfl rfl (f207_185_pq hB hc5) ?_
    rintro _ I5 J5 ⟨rfl, rfl, rfl⟩
    refine pq_s hB 1 (pc' := 25) (L' := [(0, .ref 185), (1, .int a0)]) (st' := [.int v5]) (I' := I5) (J' := J5) (by with_unfolding_all rfl) ?_
    subst hq
    exact pq_2i (x := v5) rfl ⟨_, rfl, rfl⟩
-- LPModel.priceBy
def f270_185 (I : tI) (J : tJ) (a0 : Int32) : Int32 × tI × tJ :=
  (((I 186 6) + ((a0 - 1) * (I 186 7))), I, J)
set_option maxRecDepth 100000 in
theorem f270_185_pq {sc : List Int32} {B : xM} {n : Nat} {I : tI} {J : tJ} {a0 : Int32} (hB : kB pT B) : ∀ {q : Int32 × tI × tJ}, f270_185 I J a0 = q → pq sc B n (xt_270, 2, 1) 0 [(0, .ref 185), (1, .int a0)] [] I J (fun v I1 J1 => v = some (.int q.1) ∧ I1 = q.2.1 ∧ J1 = q.2.2) := by
  intro q hq
  unfold f270_185 at hq
  refine pq_s hB 13 (pc' := 19) (L' := [(0, .ref 185), (1, .int a0)]) (st' := [.int ((I 186 6) + ((a0 - 1) * (I 186 7)))]) (I' := I) (J' := J) (by with_unfolding_all rfl) ?_
  subst hq
  exact pq_2i (x := ((I 186 6) + ((a0 - 1) * (I 186 7)))) rfl ⟨rfl, rfl, rfl⟩
-- LPModel.costBy, the loop at 4, to [30]
def f300_185_l4 (N : Nat) : Nat → tI → tJ → Int32 → Int32 → Int32 → Option (Int32 × Int32 × Int32 × tI × tJ)
  | 0, _, _, _, _, _ => none
  | k + 1, I, J, x1, x2, x3 =>
    bif xcmp .gt x3 x1 then some (x1, x2, x3, I, J) else (match f270_185 I J ((I 186 5) + x3) with | (v2, I2, J2) => f300_185_l4 N k I2 J2 x1 (x2 + v2) (x3 + 1))
set_option maxRecDepth 100000 in
theorem f300_185_l4_pq {sc : List Int32} {B : xM} {N : Nat} {P : Option Value → tI → tJ → Prop} (hB : kB pT B) : ∀ (k : Nat), k ≤ N → ∀ (b m : Nat), b ≤ k → b ≤ m → ∀ {I : tI} {J : tJ} {x1 : Int32} {x2 : Int32} {x3 : Int32} {Y : Option (Int32 × Int32 × Int32 × tI × tJ)}, f300_185_l4 N k I J x1 x2 x3 = Y → (∀ {y1 : Int32} {y2 : Int32} {y3 : Int32} {I1 : tI} {J1 : tJ}, Y = some (y1, y2, y3, I1, J1) → pq sc B m (xt_300, 4, 1) 30 [(0, .ref 185), (1, .int y1), (2, .int y2), (3, .int y3)] [] I1 J1 P) → pq sc B b (xt_300, 4, 1) 4 [(0, .ref 185), (1, .int x1), (2, .int x2), (3, .int x3)] [] I J P
  | 0, _, b, _, hb, _, _, _, _, _, _, _, _, _ => by
    have e : b = 0 := by omega
    subst e
    exact pq_zero
  | _ + 1, _, 0, _, _, _, _, _, _, _, _, _, _, _ => pq_zero
  | k + 1, hk, b + 1, m, hb, hm, I, J, x1, x2, x3, Y, hq, hx0 => by
    unfold f300_185_l4 at hq
    have hle : b ≤ N := by omega
    refine pq_s1 hB 1 (pc' := 6) (L' := [(0, .ref 185), (1, .int x1), (2, .int x2), (3, .int x3)]) (st' := [.int x1, .int x3]) (I' := I) (J' := J) (by with_unfolding_all rfl) ?_
    refine pq_icn hB rfl (fun h1 => ?_) (fun h1 => ?_)
    · rw [h1, cond_true] at hq
      exact pq_le (by omega) (hx0 hq.symm)
    · rw [h1, cond_false] at hq
      refine pq_s hB 8 (pc' := 19) (L' := [(0, .ref 185), (1, .int x1), (2, .int x2), (3, .int x3)]) (st' := [.int ((I 186 5) + x3), .ref 185, .int x2]) (I' := I) (J' := J) (by with_unfolding_all rfl) ?_
      generalize hc2 : f270_185 I J ((I 186 5) + x3) = q2 at hq
      obtain ⟨v2, _, _⟩ := q2
      dsimp only at hq
      refine pq_1 rfl rfl rfl rfl (f270_185_pq hB hc2) ?_
      rintro _ I2 J2 ⟨rfl, rfl, rfl⟩
      refine pq_s hB 4 (pc' := 4) (L' := [(3, .int (x3 + 1)), (2, .int (x2 + v2)), (0, .ref 185), (1, .int x1)]) (st' := []) (I' := I2) (J' := J2) (by with_unfolding_all rfl) ?_
      refine pq_perm (L := [(0, .ref 185), (1, .int x1), (2, .int (x2 + v2)), (3, .int (x3 + 1))]) (leqn_of ⟨rfl, rfl, rfl, rfl, trivial⟩ ⟨rfl, rfl, rfl, rfl, trivial⟩ ⟨rfl, rfl, rfl, rfl, trivial⟩) ?_
      exact f300_185_l4_pq hB k (by omega) b m (by omega) (by omega) hq hx0
-- LPModel.costBy
def f300_185 (N : Nat) (I : tI) (J : tJ) (a0 : Int32) : Option (Int32 × tI × tJ) :=
  (match f300_185_l4 N N I J a0 0 1 with | none => none | some (y1_1, y1_2, y1_3, I1, J1) => some (y1_2, I1, J1))
set_option maxRecDepth 100000 in
theorem f300_185_pq {sc : List Int32} {B : xM} {N : Nat} {I : tI} {J : tJ} {a0 : Int32} (hB : kB pT B) : ∀ {X : Option (Int32 × tI × tJ)}, f300_185 N I J a0 = X → pq sc B N (xt_300, 4, 1) 0 [(0, .ref 185), (1, .int a0)] [] I J (fun v I1 J1 => ∃ a, v = some (.int a) ∧ X = some (a, I1, J1)) := by
  intro X hq
  unfold f300_185 at hq
  have hle : N ≤ N := Nat.le_refl N
  refine pq_s hB 4 (pc' := 4) (L' := [(3, .int 1), (2, .int 0), (0, .ref 185), (1, .int a0)]) (st' := []) (I' := I) (J' := J) (by with_unfolding_all rfl) ?_
  refine pq_perm (L := [(0, .ref 185), (1, .int a0), (2, .int 0), (3, .int 1)]) (leqn_of ⟨rfl, rfl, rfl, rfl, trivial⟩ ⟨rfl, rfl, rfl, rfl, trivial⟩ ⟨rfl, rfl, rfl, rfl, trivial⟩) ?_
  refine f300_185_l4_pq hB N (Nat.le_refl N) N N hle (Nat.le_refl N) rfl ?_
  intro y1_1 y1_2 y1_3 I1 J1 hc1
  rw [hc1] at hq
  dsimp only at hq
  refine pq_s hB 1 (pc' := 31) (L' := [(0, .ref 185), (1, .int y1_1), (2, .int y1_2), (3, .int y1_3)]) (st' := [.int y1_2]) (I' := I1) (J' := J1) (by with_unfolding_all rfl) ?_
  subst hq
  exact pq_2i (x := y1_2) rfl ⟨_, rfl, rfl⟩
-- LPModel.cost
def f308_185 (N : Nat) (I : tI) (J : tJ) (a0 : Int32) : Option (Int32 × tI × tJ) :=
  (match f255_185 I J a0 with | (v1, I1, J1) => bif xcmp .ne v1 0 then (match f306_185 N I1 J1 a0 with | none => none | some (v3, I3, J3) => bif xcmp .ne v3 (-1) then (match f300_185 N I3 J3 v3 with | none => none | some (v5, I5, J5) => (match f206_185 I5 J5 v5 with | (v6, I6, J6) => some (v6, I6, J6))) else (match f205_185 I3 J3 6 with | (v7, I7, J7) => some (v7, I7, J7))) else (match f205_185 I1 J1 1 with | (v8, I8, J8) => some (v8, I8, J8)))
set_option maxRecDepth 100000 in
theorem f308_185_pq {sc : List Int32} {B : xM} {N : Nat} {I : tI} {J : tJ} {a0 : Int32} (hB : kB pT B) : ∀ {X : Option (Int32 × tI × tJ)}, f308_185 N I J a0 = X → pq sc B N (xt_308, 3, 1) 0 [(0, .ref 185), (1, .int a0)] [] I J (fun v I1 J1 => ∃ a, v = some (.int a) ∧ X = some (a, I1, J1)) := by
  intro X hq
  unfold f308_185 at hq
  have hle : N ≤ N := Nat.le_refl N
  refine pq_s hB 2 (pc' := 2) (L' := [(0, .ref 185), (1, .int a0)]) (st' := [.int a0, .ref 185]) (I' := I) (J' := J) (by with_unfolding_all rfl) ?_
  generalize hc1 : f255_185 I J a0 = q1 at hq
  obtain ⟨v1, _, _⟩ := q1
  dsimp only at hq
  refine pq_1 rfl rfl rfl rfl (f255_185_pq hB hc1) ?_
  rintro _ I1 J1 ⟨rfl, rfl, rfl⟩
  refine pq_ifn hB rfl (fun h2 => ?_) (fun h2 => ?_)
  · rw [h2, cond_true] at hq
    refine pq_s hB 2 (pc' := 16) (L' := [(0, .ref 185), (1, .int a0)]) (st' := [.int a0, .ref 185]) (I' := I1) (J' := J1) (by with_unfolding_all rfl) ?_
    refine pq_1 rfl rfl rfl rfl (pq_le hle (f306_185_pq hB rfl)) ?_
    rintro _ I3 J3 ⟨v3, rfl, hc3⟩
    rw [hc3] at hq
    dsimp only at hq
    refine pq_s hB 3 (pc' := 22) (L' := [(2, .int v3), (0, .ref 185), (1, .int a0)]) (st' := [.int (-1), .int v3]) (I' := I3) (J' := J3) (by with_unfolding_all rfl) ?_
    refine pq_icn hB rfl (fun h4 => ?_) (fun h4 => ?_)
    · rw [h4, cond_true] at hq
      refine pq_s hB 3 (pc' := 37) (L' := [(2, .int v3), (0, .ref 185), (1, .int a0)]) (st' := [.int v3, .ref 185, .ref 185]) (I' := I3) (J' := J3) (by with_unfolding_all rfl) ?_
      refine pq_1 rfl rfl rfl rfl (pq_le hle (f300_185_pq hB rfl)) ?_
      rintro _ I5 J5 ⟨v5, rfl, hc5⟩
      rw [hc5] at hq
      dsimp only at hq
      generalize hc6 : f206_185 I5 J5 v5 = q6 at hq
      obtain ⟨v6, _, _⟩ := q6
      dsimp only at hq
      refine pq_1 rfl rfl rfl rfl (f206_185_pq hB hc6) ?_
      rintro _ I6 J6 ⟨rfl, rfl, rfl⟩
      subst hq
      exact pq_2i (x := v6) rfl ⟨_, rfl, rfl⟩
    · rw [h4, cond_false] at hq
      refine pq_s hB 2 (pc' := 28) (L' := [(2, .int v3), (0, .ref 185), (1, .int a0)]) (st' := [.int 6, .ref 185]) (I' := I3) (J' := J3) (by with_unfolding_all rfl) ?_
      generalize hc7 : f205_185 I3 J3 6 = q7 at hq
      obtain ⟨v7, _, _⟩ := q7
      dsimp only at hq
      refine pq_1 rfl rfl rfl rfl (f205_185_pq hB hc7) ?_
      rintro _ I7 J7 ⟨rfl, rfl, rfl⟩
      refine pq_s hB 1 (pc' := 43) (L' := [(2, .int v3), (0, .ref 185), (1, .int a0)]) (st' := [.int v7]) (I' := I7) (J' := J7) (by with_unfolding_all rfl) ?_
      subst hq
      exact pq_2i (x := v7) rfl ⟨_, rfl, rfl⟩
  · rw [h2, cond_false] at hq
    refine pq_s hB 2 (pc' := 10) (L' := [(0, .ref 185), (1, .int a0)]) (st' := [.int 1, .ref 185]) (I' := I1) (J' := J1) (by with_unfolding_all rfl) ?_
    generalize hc8 : f205_185 I1 J1 1 = q8 at hq
    obtain ⟨v8, _, _⟩ := q8
    dsimp only at hq
    refine pq_1 rfl rfl rfl rfl (f205_185_pq hB hc8) ?_
    rintro _ I8 J8 ⟨rfl, rfl, rfl⟩
    subst hq
    exact pq_2i (x := v8) rfl ⟨_, rfl, rfl⟩
-- LPModel.often, the loop at 32, to [67]
def f309_185_l32 (N : Nat) : Nat → tI → tJ → Int32 → Int32 → Int32 → Int32 → Option (Int32 × Int32 × Int32 × Int32 × tI × tJ)
  | 0, _, _, _, _, _, _ => none
  | k + 1, I, J, x1, x2, x3, x4 =>
    bif xcmp .gt x4 x2 then some (x1, x2, x3, x4, I, J) else (match f258_185 I J (I 194 (x4).toNatClampNeg) x1 with | (v8, I8, J8) => bif xcmp .eq v8 0 then f309_185_l32 N k I8 J8 x1 x2 (x3 + 0) (x4 + 1) else f309_185_l32 N k I8 J8 x1 x2 (x3 + 1) (x4 + 1))
set_option maxRecDepth 100000 in
theorem f309_185_l32_pq {sc : List Int32} {B : xM} {N : Nat} {P : Option Value → tI → tJ → Prop} (hB : kB pT B) : ∀ (k : Nat), k ≤ N → ∀ (b m : Nat), b ≤ k → b ≤ m → ∀ {I : tI} {J : tJ} {x1 : Int32} {x2 : Int32} {x3 : Int32} {x4 : Int32} {Y : Option (Int32 × Int32 × Int32 × Int32 × tI × tJ)}, f309_185_l32 N k I J x1 x2 x3 x4 = Y → (∀ {y1 : Int32} {y2 : Int32} {y3 : Int32} {y4 : Int32} {I1 : tI} {J1 : tJ}, Y = some (y1, y2, y3, y4, I1, J1) → pq sc B m (xt_309, 5, 1) 67 [(0, .ref 185), (1, .int y1), (2, .int y2), (3, .int y3), (4, .int y4)] [] I1 J1 P) → pq sc B b (xt_309, 5, 1) 32 [(0, .ref 185), (1, .int x1), (2, .int x2), (3, .int x3), (4, .int x4)] [] I J P
  | 0, _, b, _, hb, _, _, _, _, _, _, _, _, _, _ => by
    have e : b = 0 := by omega
    subst e
    exact pq_zero
  | _ + 1, _, 0, _, _, _, _, _, _, _, _, _, _, _, _ => pq_zero
  | k + 1, hk, b + 1, m, hb, hm, I, J, x1, x2, x3, x4, Y, hq, hx0 => by
    unfold f309_185_l32 at hq
    have hle : b ≤ N := by omega
    refine pq_s1 hB 1 (pc' := 35) (L' := [(0, .ref 185), (1, .int x1), (2, .int x2), (3, .int x3), (4, .int x4)]) (st' := [.int x2, .int x4]) (I' := I) (J' := J) (by with_unfolding_all rfl) ?_
    refine pq_icn hB rfl (fun h7 => ?_) (fun h7 => ?_)
    · rw [h7, cond_true] at hq
      exact pq_le (by omega) (hx0 hq.symm)
    · rw [h7, cond_false] at hq
      refine pq_s hB 7 (pc' := 48) (L' := [(0, .ref 185), (1, .int x1), (2, .int x2), (3, .int x3), (4, .int x4)]) (st' := [.int x1, .int (I 194 (x4).toNatClampNeg), .ref 185, .int x3]) (I' := I) (J' := J) (by with_unfolding_all rfl) ?_
      generalize hc8 : f258_185 I J (I 194 (x4).toNatClampNeg) x1 = q8 at hq
      obtain ⟨v8, _, _⟩ := q8
      dsimp only at hq
      refine pq_1 rfl rfl rfl rfl (f258_185_pq hB hc8) ?_
      rintro _ I8 J8 ⟨rfl, rfl, rfl⟩
      refine pq_ifn hB rfl (fun h9 => ?_) (fun h9 => ?_)
      · rw [h9, cond_true] at hq
        refine pq_s hB 5 (pc' := 32) (L' := [(4, .int (x4 + 1)), (3, .int (x3 + 0)), (0, .ref 185), (1, .int x1), (2, .int x2)]) (st' := []) (I' := I8) (J' := J8) (by with_unfolding_all rfl) ?_
        refine pq_perm (L := [(0, .ref 185), (1, .int x1), (2, .int x2), (3, .int (x3 + 0)), (4, .int (x4 + 1))]) (leqn_of ⟨rfl, rfl, rfl, rfl, rfl, trivial⟩ ⟨rfl, rfl, rfl, rfl, rfl, trivial⟩ ⟨rfl, rfl, rfl, rfl, rfl, trivial⟩) ?_
        exact f309_185_l32_pq hB k (by omega) b m (by omega) (by omega) hq hx0
      · rw [h9, cond_false] at hq
        refine pq_s hB 6 (pc' := 32) (L' := [(4, .int (x4 + 1)), (3, .int (x3 + 1)), (0, .ref 185), (1, .int x1), (2, .int x2)]) (st' := []) (I' := I8) (J' := J8) (by with_unfolding_all rfl) ?_
        refine pq_perm (L := [(0, .ref 185), (1, .int x1), (2, .int x2), (3, .int (x3 + 1)), (4, .int (x4 + 1))]) (leqn_of ⟨rfl, rfl, rfl, rfl, rfl, trivial⟩ ⟨rfl, rfl, rfl, rfl, rfl, trivial⟩ ⟨rfl, rfl, rfl, rfl, rfl, trivial⟩) ?_
        exact f309_185_l32_pq hB k (by omega) b m (by omega) (by omega) hq hx0
-- LPModel.often
def f309_185 (N : Nat) (I : tI) (J : tJ) (a0 : Int32) (a1 : Int32) : Option (Int32 × tI × tJ) :=
  (match f255_185 I J a0 with | (v1, I1, J1) => bif xcmp .eq v1 0 then (match f205_185 I1 J1 1 with | (v3, I3, J3) => some (v3, I3, J3)) else (match f298 I1 J1 a1 1 with | (v4, I4, J4) => bif xcmp .ne v4 0 then (match f305_185 N I4 J4 a1 with | none => none | some (_, I6, J6) => (match f309_185_l32 N N I6 J6 a0 a1 0 1 with | none => none | some (y7_1, y7_2, y7_3, y7_4, I7, J7) => (match f206_185 I7 J7 y7_3 with | (v8, I8, J8) => some (v8, I8, J8)))) else (match f205_185 I4 J4 1 with | (v9, I9, J9) => some (v9, I9, J9))))
set_option maxRecDepth 100000 in
theorem f309_185_pq {sc : List Int32} {B : xM} {N : Nat} {I : tI} {J : tJ} {a0 : Int32} {a1 : Int32} (hB : kB pT B) : ∀ {X : Option (Int32 × tI × tJ)}, f309_185 N I J a0 a1 = X → pq sc B N (xt_309, 5, 1) 0 [(0, .ref 185), (1, .int a0), (2, .int a1)] [] I J (fun v I1 J1 => ∃ a, v = some (.int a) ∧ X = some (a, I1, J1)) := by
  intro X hq
  unfold f309_185 at hq
  have hle : N ≤ N := Nat.le_refl N
  refine pq_s hB 2 (pc' := 2) (L' := [(0, .ref 185), (1, .int a0), (2, .int a1)]) (st' := [.int a0, .ref 185]) (I' := I) (J' := J) (by with_unfolding_all rfl) ?_
  generalize hc1 : f255_185 I J a0 = q1 at hq
  obtain ⟨v1, _, _⟩ := q1
  dsimp only at hq
  refine pq_1 rfl rfl rfl rfl (f255_185_pq hB hc1) ?_
  rintro _ I1 J1 ⟨rfl, rfl, rfl⟩
  refine pq_ifn hB rfl (fun h2 => ?_) (fun h2 => ?_)
  · rw [h2, cond_true] at hq
    refine pq_s hB 2 (pc' := 18) (L' := [(0, .ref 185), (1, .int a0), (2, .int a1)]) (st' := [.int 1, .ref 185]) (I' := I1) (J' := J1) (by with_unfolding_all rfl) ?_
    generalize hc3 : f205_185 I1 J1 1 = q3 at hq
    obtain ⟨v3, _, _⟩ := q3
    dsimp only at hq
    refine pq_1 rfl rfl rfl rfl (f205_185_pq hB hc3) ?_
    rintro _ I3 J3 ⟨rfl, rfl, rfl⟩
    subst hq
    exact pq_2i (x := v3) rfl ⟨_, rfl, rfl⟩
  · rw [h2, cond_false] at hq
    refine pq_s hB 2 (pc' := 10) (L' := [(0, .ref 185), (1, .int a0), (2, .int a1)]) (st' := [.int 1, .int a1]) (I' := I1) (J' := J1) (by with_unfolding_all rfl) ?_
    generalize hc4 : f298 I1 J1 a1 1 = q4 at hq
    obtain ⟨v4, _, _⟩ := q4
    dsimp only at hq
    refine pq_1 rfl rfl rfl rfl (f298_pq hB hc4) ?_
    rintro _ I4 J4 ⟨rfl, rfl, rfl⟩
    refine pq_ifn hB rfl (fun h5 => ?_) (fun h5 => ?_)
    · rw [h5, cond_true] at hq
      refine pq_s hB 2 (pc' := 24) (L' := [(0, .ref 185), (1, .int a0), (2, .int a1)]) (st' := [.int a1, .ref 185]) (I' := I4) (J' := J4) (by with_unfolding_all rfl) ?_
      refine pq_1 rfl rfl rfl rfl (pq_le hle (f305_185_pq hB rfl)) ?_
      rintro _ I6 J6 ⟨rfl, hc6⟩
      rw [hc6] at hq
      dsimp only at hq
      refine pq_s hB 4 (pc' := 32) (L' := [(4, .int 1), (3, .int 0), (0, .ref 185), (1, .int a0), (2, .int a1)]) (st' := []) (I' := I6) (J' := J6) (by with_unfolding_all rfl) ?_
      refine pq_perm (L := [(0, .ref 185), (1, .int a0), (2, .int a1), (3, .int 0), (4, .int 1)]) (leqn_of ⟨rfl, rfl, rfl, rfl, rfl, trivial⟩ ⟨rfl, rfl, rfl, rfl, rfl, trivial⟩ ⟨rfl, rfl, rfl, rfl, rfl, trivial⟩) ?_
      refine f309_185_l32_pq hB N (Nat.le_refl N) N N hle (Nat.le_refl N) rfl ?_
      intro y7_1 y7_2 y7_3 y7_4 I7 J7 hc7
      rw [hc7] at hq
      dsimp only at hq
      refine pq_s hB 2 (pc' := 69) (L' := [(0, .ref 185), (1, .int y7_1), (2, .int y7_2), (3, .int y7_3), (4, .int y7_4)]) (st' := [.int y7_3, .ref 185]) (I' := I7) (J' := J7) (by with_unfolding_all rfl) ?_
      generalize hc8 : f206_185 I7 J7 y7_3 = q8 at hq
      obtain ⟨v8, _, _⟩ := q8
      dsimp only at hq
      refine pq_1 rfl rfl rfl rfl (f206_185_pq hB hc8) ?_
      rintro _ I8 J8 ⟨rfl, rfl, rfl⟩
      subst hq
      exact pq_2i (x := v8) rfl ⟨_, rfl, rfl⟩
    · rw [h5, cond_false] at hq
      refine pq_s hB 2 (pc' := 18) (L' := [(0, .ref 185), (1, .int a0), (2, .int a1)]) (st' := [.int 1, .ref 185]) (I' := I4) (J' := J4) (by with_unfolding_all rfl) ?_
      generalize hc9 : f205_185 I4 J4 1 = q9 at hq
      obtain ⟨v9, _, _⟩ := q9
      dsimp only at hq
      refine pq_1 rfl rfl rfl rfl (f205_185_pq hB hc9) ?_
      rintro _ I9 J9 ⟨rfl, rfl, rfl⟩
      subst hq
      exact pq_2i (x := v9) rfl ⟨_, rfl, rfl⟩
-- LPModel.longest, the loop at 35, to [79]
def f310_185_l35 (N : Nat) : Nat → tI → tJ → Int32 → Int32 → Int32 → Int32 → Int32 → Option (Int32 × Int32 × Int32 × Int32 × Int32 × tI × tJ)
  | 0, _, _, _, _, _, _, _ => none
  | k + 1, I, J, x1, x2, x3, x4, x5 =>
    bif xcmp .gt x5 x2 then some (x1, x2, x3, x4, x5, I, J) else (match f258_185 I J (I 194 (x5).toNatClampNeg) x1 with | (v8, I8, J8) => bif xcmp .eq v8 0 then f310_185_l35 N k I8 J8 x1 x2 (if x3 < 0 then 0 else x3) 0 (x5 + 1) else f310_185_l35 N k I8 J8 x1 x2 (if x3 < (x4 + 1) then (x4 + 1) else x3) (x4 + 1) (x5 + 1))
set_option maxRecDepth 100000 in
theorem f310_185_l35_pq {sc : List Int32} {B : xM} {N : Nat} {P : Option Value → tI → tJ → Prop} (hB : kB pT B) : ∀ (k : Nat), k ≤ N → ∀ (b m : Nat), b ≤ k → b ≤ m → ∀ {I : tI} {J : tJ} {x1 : Int32} {x2 : Int32} {x3 : Int32} {x4 : Int32} {x5 : Int32} {Y : Option (Int32 × Int32 × Int32 × Int32 × Int32 × tI × tJ)}, f310_185_l35 N k I J x1 x2 x3 x4 x5 = Y → (∀ {y1 : Int32} {y2 : Int32} {y3 : Int32} {y4 : Int32} {y5 : Int32} {I1 : tI} {J1 : tJ}, Y = some (y1, y2, y3, y4, y5, I1, J1) → pq sc B m (xt_310, 6, 1) 79 [(0, .ref 185), (1, .int y1), (2, .int y2), (3, .int y3), (4, .int y4), (5, .int y5)] [] I1 J1 P) → pq sc B b (xt_310, 6, 1) 35 [(0, .ref 185), (1, .int x1), (2, .int x2), (3, .int x3), (4, .int x4), (5, .int x5)] [] I J P
  | 0, _, b, _, hb, _, _, _, _, _, _, _, _, _, _, _ => by
    have e : b = 0 := by omega
    subst e
    exact pq_zero
  | _ + 1, _, 0, _, _, _, _, _, _, _, _, _, _, _, _, _ => pq_zero
  | k + 1, hk, b + 1, m, hb, hm, I, J, x1, x2, x3, x4, x5, Y, hq, hx0 => by
    unfold f310_185_l35 at hq
    have hle : b ≤ N := by omega
    refine pq_s1 hB 1 (pc' := 38) (L' := [(0, .ref 185), (1, .int x1), (2, .int x2), (3, .int x3), (4, .int x4), (5, .int x5)]) (st' := [.int x2, .int x5]) (I' := I) (J' := J) (by with_unfolding_all rfl) ?_
    refine pq_icn hB rfl (fun h7 => ?_) (fun h7 => ?_)
    · rw [h7, cond_true] at hq
      exact pq_le (by omega) (hx0 hq.symm)
    · rw [h7, cond_false] at hq
      refine pq_s hB 6 (pc' := 50) (L' := [(0, .ref 185), (1, .int x1), (2, .int x2), (3, .int x3), (4, .int x4), (5, .int x5)]) (st' := [.int x1, .int (I 194 (x5).toNatClampNeg), .ref 185]) (I' := I) (J' := J) (by with_unfolding_all rfl) ?_
      generalize hc8 : f258_185 I J (I 194 (x5).toNatClampNeg) x1 = q8 at hq
      obtain ⟨v8, _, _⟩ := q8
      dsimp only at hq
      refine pq_1 rfl rfl rfl rfl (f258_185_pq hB hc8) ?_
      rintro _ I8 J8 ⟨rfl, rfl, rfl⟩
      refine pq_ifn hB rfl (fun h9 => ?_) (fun h9 => ?_)
      · rw [h9, cond_true] at hq
        refine pq_s hB 8 (pc' := 35) (L' := [(5, .int (x5 + 1)), (3, .int (if x3 < 0 then 0 else x3)), (4, .int 0), (0, .ref 185), (1, .int x1), (2, .int x2)]) (st' := []) (I' := I8) (J' := J8) (by with_unfolding_all rfl) ?_
        refine pq_perm (L := [(0, .ref 185), (1, .int x1), (2, .int x2), (3, .int (if x3 < 0 then 0 else x3)), (4, .int 0), (5, .int (x5 + 1))]) (leqn_of ⟨rfl, rfl, rfl, rfl, rfl, rfl, trivial⟩ ⟨rfl, rfl, rfl, rfl, rfl, rfl, trivial⟩ ⟨rfl, rfl, rfl, rfl, rfl, rfl, trivial⟩) ?_
        exact f310_185_l35_pq hB k (by omega) b m (by omega) (by omega) hq hx0
      · rw [h9, cond_false] at hq
        refine pq_s hB 11 (pc' := 35) (L' := [(5, .int (x5 + 1)), (3, .int (if x3 < (x4 + 1) then (x4 + 1) else x3)), (4, .int (x4 + 1)), (0, .ref 185), (1, .int x1), (2, .int x2)]) (st' := []) (I' := I8) (J' := J8) (by with_unfolding_all rfl) ?_
        refine pq_perm (L := [(0, .ref 185), (1, .int x1), (2, .int x2), (3, .int (if x3 < (x4 + 1) then (x4 + 1) else x3)), (4, .int (x4 + 1)), (5, .int (x5 + 1))]) (leqn_of ⟨rfl, rfl, rfl, rfl, rfl, rfl, trivial⟩ ⟨rfl, rfl, rfl, rfl, rfl, rfl, trivial⟩ ⟨rfl, rfl, rfl, rfl, rfl, rfl, trivial⟩) ?_
        exact f310_185_l35_pq hB k (by omega) b m (by omega) (by omega) hq hx0
-- LPModel.longest
def f310_185 (N : Nat) (I : tI) (J : tJ) (a0 : Int32) (a1 : Int32) : Option (Int32 × tI × tJ) :=
  (match f255_185 I J a0 with | (v1, I1, J1) => bif xcmp .eq v1 0 then (match f205_185 I1 J1 1 with | (v3, I3, J3) => some (v3, I3, J3)) else (match f298 I1 J1 a1 1 with | (v4, I4, J4) => bif xcmp .ne v4 0 then (match f305_185 N I4 J4 a1 with | none => none | some (_, I6, J6) => (match f310_185_l35 N N I6 J6 a0 a1 0 0 1 with | none => none | some (y7_1, y7_2, y7_3, y7_4, y7_5, I7, J7) => (match f206_185 I7 J7 y7_3 with | (v8, I8, J8) => some (v8, I8, J8)))) else (match f205_185 I4 J4 1 with | (v9, I9, J9) => some (v9, I9, J9))))
set_option maxRecDepth 100000 in
theorem f310_185_pq {sc : List Int32} {B : xM} {N : Nat} {I : tI} {J : tJ} {a0 : Int32} {a1 : Int32} (hB : kB pT B) : ∀ {X : Option (Int32 × tI × tJ)}, f310_185 N I J a0 a1 = X → pq sc B N (xt_310, 6, 1) 0 [(0, .ref 185), (1, .int a0), (2, .int a1)] [] I J (fun v I1 J1 => ∃ a, v = some (.int a) ∧ X = some (a, I1, J1)) := by
  intro X hq
  unfold f310_185 at hq
  have hle : N ≤ N := Nat.le_refl N
  refine pq_s hB 2 (pc' := 2) (L' := [(0, .ref 185), (1, .int a0), (2, .int a1)]) (st' := [.int a0, .ref 185]) (I' := I) (J' := J) (by with_unfolding_all rfl) ?_
  generalize hc1 : f255_185 I J a0 = q1 at hq
  obtain ⟨v1, _, _⟩ := q1
  dsimp only at hq
  refine pq_1 rfl rfl rfl rfl (f255_185_pq hB hc1) ?_
  rintro _ I1 J1 ⟨rfl, rfl, rfl⟩
  refine pq_ifn hB rfl (fun h2 => ?_) (fun h2 => ?_)
  · rw [h2, cond_true] at hq
    refine pq_s hB 2 (pc' := 18) (L' := [(0, .ref 185), (1, .int a0), (2, .int a1)]) (st' := [.int 1, .ref 185]) (I' := I1) (J' := J1) (by with_unfolding_all rfl) ?_
    generalize hc3 : f205_185 I1 J1 1 = q3 at hq
    obtain ⟨v3, _, _⟩ := q3
    dsimp only at hq
    refine pq_1 rfl rfl rfl rfl (f205_185_pq hB hc3) ?_
    rintro _ I3 J3 ⟨rfl, rfl, rfl⟩
    subst hq
    exact pq_2i (x := v3) rfl ⟨_, rfl, rfl⟩
  · rw [h2, cond_false] at hq
    refine pq_s hB 2 (pc' := 10) (L' := [(0, .ref 185), (1, .int a0), (2, .int a1)]) (st' := [.int 1, .int a1]) (I' := I1) (J' := J1) (by with_unfolding_all rfl) ?_
    generalize hc4 : f298 I1 J1 a1 1 = q4 at hq
    obtain ⟨v4, _, _⟩ := q4
    dsimp only at hq
    refine pq_1 rfl rfl rfl rfl (f298_pq hB hc4) ?_
    rintro _ I4 J4 ⟨rfl, rfl, rfl⟩
    refine pq_ifn hB rfl (fun h5 => ?_) (fun h5 => ?_)
    · rw [h5, cond_true] at hq
      refine pq_s hB 2 (pc' := 24) (L' := [(0, .ref 185), (1, .int a0), (2, .int a1)]) (st' := [.int a1, .ref 185]) (I' := I4) (J' := J4) (by with_unfolding_all rfl) ?_
      refine pq_1 rfl rfl rfl rfl (pq_le hle (f305_185_pq hB rfl)) ?_
      rintro _ I6 J6 ⟨rfl, hc6⟩
      rw [hc6] at hq
      dsimp only at hq
      refine pq_s hB 6 (pc' := 35) (L' := [(5, .int 1), (4, .int 0), (3, .int 0), (0, .ref 185), (1, .int a0), (2, .int a1)]) (st' := []) (I' := I6) (J' := J6) (by with_unfolding_all rfl) ?_
      refine pq_perm (L := [(0, .ref 185), (1, .int a0), (2, .int a1), (3, .int 0), (4, .int 0), (5, .int 1)]) (leqn_of ⟨rfl, rfl, rfl, rfl, rfl, rfl, trivial⟩ ⟨rfl, rfl, rfl, rfl, rfl, rfl, trivial⟩ ⟨rfl, rfl, rfl, rfl, rfl, rfl, trivial⟩) ?_
      refine f310_185_l35_pq hB N (Nat.le_refl N) N N hle (Nat.le_refl N) rfl ?_
      intro y7_1 y7_2 y7_3 y7_4 y7_5 I7 J7 hc7
      rw [hc7] at hq
      dsimp only at hq
      refine pq_s hB 2 (pc' := 81) (L' := [(0, .ref 185), (1, .int y7_1), (2, .int y7_2), (3, .int y7_3), (4, .int y7_4), (5, .int y7_5)]) (st' := [.int y7_3, .ref 185]) (I' := I7) (J' := J7) (by with_unfolding_all rfl) ?_
      generalize hc8 : f206_185 I7 J7 y7_3 = q8 at hq
      obtain ⟨v8, _, _⟩ := q8
      dsimp only at hq
      refine pq_1 rfl rfl rfl rfl (f206_185_pq hB hc8) ?_
      rintro _ I8 J8 ⟨rfl, rfl, rfl⟩
      subst hq
      exact pq_2i (x := v8) rfl ⟨_, rfl, rfl⟩
    · rw [h5, cond_false] at hq
      refine pq_s hB 2 (pc' := 18) (L' := [(0, .ref 185), (1, .int a0), (2, .int a1)]) (st' := [.int 1, .ref 185]) (I' := I4) (J' := J4) (by with_unfolding_all rfl) ?_
      generalize hc9 : f205_185 I4 J4 1 = q9 at hq
      obtain ⟨v9, _, _⟩ := q9
      dsimp only at hq
      refine pq_1 rfl rfl rfl rfl (f205_185_pq hB hc9) ?_
      rintro _ I9 J9 ⟨rfl, rfl, rfl⟩
      subst hq
      exact pq_2i (x := v9) rfl ⟨_, rfl, rfl⟩
-- LPModel.gone, the loop at 25, to [54]
def f311_185_l25 (N : Nat) : Nat → tI → tJ → Int32 → Int32 → Int32 → Option (Int32 × Int32 × Int32 × tI × tJ)
  | 0, _, _, _, _, _ => none
  | k + 1, I, J, x1, x2, x3 =>
    bif xcmp .gt x3 200 then some (x1, x2, x3, I, J) else (match f284_185 N I J with | none => none | some (_, I5, J5) => (match f261_185 I5 J5 x1 with | (v6, I6, J6) => bif xcmp .eq v6 0 then f311_185_l25 N k I6 J6 x1 x2 (x3 + 1) else f311_185_l25 N k I6 J6 x1 (x3 + 1) (x3 + 1)))
set_option maxRecDepth 100000 in
theorem f311_185_l25_pq {sc : List Int32} {B : xM} {N : Nat} {P : Option Value → tI → tJ → Prop} (hB : kB pT B) : ∀ (k : Nat), k ≤ N → ∀ (b m : Nat), b ≤ k → b ≤ m → ∀ {I : tI} {J : tJ} {x1 : Int32} {x2 : Int32} {x3 : Int32} {Y : Option (Int32 × Int32 × Int32 × tI × tJ)}, f311_185_l25 N k I J x1 x2 x3 = Y → (∀ {y1 : Int32} {y2 : Int32} {y3 : Int32} {I1 : tI} {J1 : tJ}, Y = some (y1, y2, y3, I1, J1) → pq sc B m (xt_311, 4, 1) 54 [(0, .ref 185), (1, .int y1), (2, .int y2), (3, .int y3)] [] I1 J1 P) → pq sc B b (xt_311, 4, 1) 25 [(0, .ref 185), (1, .int x1), (2, .int x2), (3, .int x3)] [] I J P
  | 0, _, b, _, hb, _, _, _, _, _, _, _, _, _ => by
    have e : b = 0 := by omega
    subst e
    exact pq_zero
  | _ + 1, _, 0, _, _, _, _, _, _, _, _, _, _, _ => pq_zero
  | k + 1, hk, b + 1, m, hb, hm, I, J, x1, x2, x3, Y, hq, hx0 => by
    unfold f311_185_l25 at hq
    have hle : b ≤ N := by omega
    refine pq_s1 hB 1 (pc' := 29) (L' := [(0, .ref 185), (1, .int x1), (2, .int x2), (3, .int x3)]) (st' := [.int 200, .int x3]) (I' := I) (J' := J) (by with_unfolding_all rfl) ?_
    refine pq_icn hB rfl (fun h4 => ?_) (fun h4 => ?_)
    · rw [h4, cond_true] at hq
      exact pq_le (by omega) (hx0 hq.symm)
    · rw [h4, cond_false] at hq
      refine pq_s hB 1 (pc' := 33) (L' := [(0, .ref 185), (1, .int x1), (2, .int x2), (3, .int x3)]) (st' := [.ref 185]) (I' := I) (J' := J) (by with_unfolding_all rfl) ?_
      refine pq_1 rfl rfl rfl rfl (pq_le hle (f284_185_pq hB rfl)) ?_
      rintro _ I5 J5 ⟨rfl, hc5⟩
      rw [hc5] at hq
      dsimp only at hq
      refine pq_s hB 2 (pc' := 38) (L' := [(0, .ref 185), (1, .int x1), (2, .int x2), (3, .int x3)]) (st' := [.int x1, .ref 185]) (I' := I5) (J' := J5) (by with_unfolding_all rfl) ?_
      generalize hc6 : f261_185 I5 J5 x1 = q6 at hq
      obtain ⟨v6, _, _⟩ := q6
      dsimp only at hq
      refine pq_1 rfl rfl rfl rfl (f261_185_pq hB hc6) ?_
      rintro _ I6 J6 ⟨rfl, rfl, rfl⟩
      refine pq_ifn hB rfl (fun h7 => ?_) (fun h7 => ?_)
      · rw [h7, cond_true] at hq
        refine pq_s hB 2 (pc' := 25) (L' := [(3, .int (x3 + 1)), (0, .ref 185), (1, .int x1), (2, .int x2)]) (st' := []) (I' := I6) (J' := J6) (by with_unfolding_all rfl) ?_
        refine pq_perm (L := [(0, .ref 185), (1, .int x1), (2, .int x2), (3, .int (x3 + 1))]) (leqn_of ⟨rfl, rfl, rfl, rfl, trivial⟩ ⟨rfl, rfl, rfl, rfl, trivial⟩ ⟨rfl, rfl, rfl, rfl, trivial⟩) ?_
        exact f311_185_l25_pq hB k (by omega) b m (by omega) (by omega) hq hx0
      · rw [h7, cond_false] at hq
        refine pq_s hB 6 (pc' := 25) (L' := [(3, .int (x3 + 1)), (2, .int (x3 + 1)), (0, .ref 185), (1, .int x1)]) (st' := []) (I' := I6) (J' := J6) (by with_unfolding_all rfl) ?_
        refine pq_perm (L := [(0, .ref 185), (1, .int x1), (2, .int (x3 + 1)), (3, .int (x3 + 1))]) (leqn_of ⟨rfl, rfl, rfl, rfl, trivial⟩ ⟨rfl, rfl, rfl, rfl, trivial⟩ ⟨rfl, rfl, rfl, rfl, trivial⟩) ?_
        exact f311_185_l25_pq hB k (by omega) b m (by omega) (by omega) hq hx0
-- LPModel.gone
def f311_185 (N : Nat) (I : tI) (J : tJ) (a0 : Int32) : Option (Int32 × tI × tJ) :=
  (match f254_185 I J a0 with | (v1, I1, J1) => bif xcmp .ne v1 0 then (match f296_185 N I1 J1 3720 with | none => none | some (_, I3, J3) => (match f311_185_l25 N N I3 J3 a0 1 1 with | none => none | some (y4_1, y4_2, y4_3, I4, J4) => (match f297_185 N I4 J4 3720 with | none => none | some (_, I5, J5) => bif xcmp .le y4_2 200 then (match f206_185 I5 J5 y4_2 with | (v7, I7, J7) => some (v7, I7, J7)) else (match f205_185 I5 J5 6 with | (v8, I8, J8) => some (v8, I8, J8))))) else (match f205_185 I1 J1 1 with | (v9, I9, J9) => some (v9, I9, J9)))
set_option maxRecDepth 100000 in
theorem f311_185_pq {sc : List Int32} {B : xM} {N : Nat} {I : tI} {J : tJ} {a0 : Int32} (hB : kB pT B) : ∀ {X : Option (Int32 × tI × tJ)}, f311_185 N I J a0 = X → pq sc B N (xt_311, 4, 1) 0 [(0, .ref 185), (1, .int a0)] [] I J (fun v I1 J1 => ∃ a, v = some (.int a) ∧ X = some (a, I1, J1)) := by
  intro X hq
  unfold f311_185 at hq
  have hle : N ≤ N := Nat.le_refl N
  refine pq_s hB 2 (pc' := 2) (L' := [(0, .ref 185), (1, .int a0)]) (st' := [.int a0, .ref 185]) (I' := I) (J' := J) (by with_unfolding_all rfl) ?_
  generalize hc1 : f254_185 I J a0 = q1 at hq
  obtain ⟨v1, _, _⟩ := q1
  dsimp only at hq
  refine pq_1 rfl rfl rfl rfl (f254_185_pq hB hc1) ?_
  rintro _ I1 J1 ⟨rfl, rfl, rfl⟩
  refine pq_ifn hB rfl (fun h2 => ?_) (fun h2 => ?_)
  · rw [h2, cond_true] at hq
    refine pq_s hB 2 (pc' := 18) (L' := [(0, .ref 185), (1, .int a0)]) (st' := [.int 3720, .ref 185]) (I' := I1) (J' := J1) (by with_unfolding_all rfl) ?_
    refine pq_1 rfl rfl rfl rfl (pq_le hle (f296_185_pq hB rfl)) ?_
    rintro _ I3 J3 ⟨rfl, hc3⟩
    rw [hc3] at hq
    dsimp only at hq
    refine pq_s hB 4 (pc' := 25) (L' := [(3, .int 1), (2, .int 1), (0, .ref 185), (1, .int a0)]) (st' := []) (I' := I3) (J' := J3) (by with_unfolding_all rfl) ?_
    refine pq_perm (L := [(0, .ref 185), (1, .int a0), (2, .int 1), (3, .int 1)]) (leqn_of ⟨rfl, rfl, rfl, rfl, trivial⟩ ⟨rfl, rfl, rfl, rfl, trivial⟩ ⟨rfl, rfl, rfl, rfl, trivial⟩) ?_
    refine f311_185_l25_pq hB N (Nat.le_refl N) N N hle (Nat.le_refl N) rfl ?_
    intro y4_1 y4_2 y4_3 I4 J4 hc4
    rw [hc4] at hq
    dsimp only at hq
    refine pq_s hB 2 (pc' := 58) (L' := [(0, .ref 185), (1, .int y4_1), (2, .int y4_2), (3, .int y4_3)]) (st' := [.int 3720, .ref 185]) (I' := I4) (J' := J4) (by with_unfolding_all rfl) ?_
    refine pq_1 rfl rfl rfl rfl (pq_le hle (f297_185_pq hB rfl)) ?_
    rintro _ I5 J5 ⟨rfl, hc5⟩
    rw [hc5] at hq
    dsimp only at hq
    refine pq_s hB 2 (pc' := 65) (L' := [(0, .ref 185), (1, .int y4_1), (2, .int y4_2), (3, .int y4_3)]) (st' := [.int 200, .int y4_2]) (I' := I5) (J' := J5) (by with_unfolding_all rfl) ?_
    refine pq_icn hB rfl (fun h6 => ?_) (fun h6 => ?_)
    · rw [h6, cond_true] at hq
      refine pq_s hB 2 (pc' := 79) (L' := [(0, .ref 185), (1, .int y4_1), (2, .int y4_2), (3, .int y4_3)]) (st' := [.int y4_2, .ref 185]) (I' := I5) (J' := J5) (by with_unfolding_all rfl) ?_
      generalize hc7 : f206_185 I5 J5 y4_2 = q7 at hq
      obtain ⟨v7, _, _⟩ := q7
      dsimp only at hq
      refine pq_1 rfl rfl rfl rfl (f206_185_pq hB hc7) ?_
      rintro _ I7 J7 ⟨rfl, rfl, rfl⟩
      subst hq
      exact pq_2i (x := v7) rfl ⟨_, rfl, rfl⟩
    · rw [h6, cond_false] at hq
      refine pq_s hB 2 (pc' := 71) (L' := [(0, .ref 185), (1, .int y4_1), (2, .int y4_2), (3, .int y4_3)]) (st' := [.int 6, .ref 185]) (I' := I5) (J' := J5) (by with_unfolding_all rfl) ?_
      generalize hc8 : f205_185 I5 J5 6 = q8 at hq
      obtain ⟨v8, _, _⟩ := q8
      dsimp only at hq
      refine pq_1 rfl rfl rfl rfl (f205_185_pq hB hc8) ?_
      rintro _ I8 J8 ⟨rfl, rfl, rfl⟩
      refine pq_s hB 1 (pc' := 82) (L' := [(0, .ref 185), (1, .int y4_1), (2, .int y4_2), (3, .int y4_3)]) (st' := [.int v8]) (I' := I8) (J' := J8) (by with_unfolding_all rfl) ?_
      subst hq
      exact pq_2i (x := v8) rfl ⟨_, rfl, rfl⟩
  · rw [h2, cond_false] at hq
    refine pq_s hB 2 (pc' := 10) (L' := [(0, .ref 185), (1, .int a0)]) (st' := [.int 1, .ref 185]) (I' := I1) (J' := J1) (by with_unfolding_all rfl) ?_
    generalize hc9 : f205_185 I1 J1 1 = q9 at hq
    obtain ⟨v9, _, _⟩ := q9
    dsimp only at hq
    refine pq_1 rfl rfl rfl rfl (f205_185_pq hB hc9) ?_
    rintro _ I9 J9 ⟨rfl, rfl, rfl⟩
    subst hq
    exact pq_2i (x := v9) rfl ⟨_, rfl, rfl⟩
-- LPModel.isAsIn, the loop at 2, to [75, 67]
def f312_185_l2 (N : Nat) : Nat → tI → tJ → Int32 → Int32 → Option (Nat × Int32 × Int32 × tI × tJ)
  | 0, _, _, _, _ => none
  | k + 1, I, J, x1, x2 =>
    bif xcmp .ge x2 (I 186 2) then some (0, x1, x2, I, J) else (match f251 I J x2 with | (v2, I2, J2) => bif xcmp .ne (I2 186 ((v2 + 4)).toNatClampNeg) (I2 186 (((x1 + v2) + 4)).toNatClampNeg) then some (1, x1, x2, I2, J2) else (match f261_185 I2 J2 x2 with | (v4, I4, J4) => bif xcmp .eq v4 0 then f312_185_l2 N k I4 J4 x1 (x2 + 1) else bif xcmp .eq (I4 186 ((v2 + 5)).toNatClampNeg) (I4 186 (((x1 + v2) + 5)).toNatClampNeg) then f312_185_l2 N k I4 J4 x1 (x2 + 1) else some (1, x1, x2, I4, J4)))
set_option maxRecDepth 100000 in
theorem f312_185_l2_pq {sc : List Int32} {B : xM} {N : Nat} {P : Option Value → tI → tJ → Prop} (hB : kB pT B) : ∀ (k : Nat), k ≤ N → ∀ (b m : Nat), b ≤ k → b ≤ m → ∀ {I : tI} {J : tJ} {x1 : Int32} {x2 : Int32} {Y : Option (Nat × Int32 × Int32 × tI × tJ)}, f312_185_l2 N k I J x1 x2 = Y → (∀ {y1 : Int32} {y2 : Int32} {I1 : tI} {J1 : tJ}, Y = some (0, y1, y2, I1, J1) → pq sc B m (xt_312, 4, 3) 75 [(0, .ref 185), (1, .int y1), (2, .int y2)] [] I1 J1 P) → (∀ {y1 : Int32} {y2 : Int32} {I1 : tI} {J1 : tJ}, Y = some (1, y1, y2, I1, J1) → pq sc B m (xt_312, 4, 3) 67 [(0, .ref 185), (1, .int y1), (2, .int y2)] [] I1 J1 P) → pq sc B b (xt_312, 4, 3) 2 [(0, .ref 185), (1, .int x1), (2, .int x2)] [] I J P
  | 0, _, b, _, hb, _, _, _, _, _, _, _, _, _ => by
    have e : b = 0 := by omega
    subst e
    exact pq_zero
  | _ + 1, _, 0, _, _, _, _, _, _, _, _, _, _, _ => pq_zero
  | k + 1, hk, b + 1, m, hb, hm, I, J, x1, x2, Y, hq, hx0, hx1 => by
    unfold f312_185_l2 at hq
    have hle : b ≤ N := by omega
    refine pq_s1 hB 4 (pc' := 9) (L' := [(0, .ref 185), (1, .int x1), (2, .int x2)]) (st' := [.int (I 186 2), .int x2]) (I' := I) (J' := J) (by with_unfolding_all rfl) ?_
    refine pq_icn hB rfl (fun h1 => ?_) (fun h1 => ?_)
    · rw [h1, cond_true] at hq
      exact pq_le (by omega) (hx0 hq.symm)
    · rw [h1, cond_false] at hq
      refine pq_s hB 1 (pc' := 13) (L' := [(0, .ref 185), (1, .int x1), (2, .int x2)]) (st' := [.int x2]) (I' := I) (J' := J) (by with_unfolding_all rfl) ?_
      generalize hc2 : f251 I J x2 = q2 at hq
      obtain ⟨v2, _, _⟩ := q2
      dsimp only at hq
      refine pq_1 rfl rfl rfl rfl (f251_pq hB hc2) ?_
      rintro _ I2 J2 ⟨rfl, rfl, rfl⟩
      refine pq_s hB 15 (pc' := 35) (L' := [(3, .int v2), (0, .ref 185), (1, .int x1), (2, .int x2)]) (st' := [.int (I2 186 (((x1 + v2) + 4)).toNatClampNeg), .int (I2 186 ((v2 + 4)).toNatClampNeg)]) (I' := I2) (J' := J2) (by with_unfolding_all rfl) ?_
      refine pq_icn hB rfl (fun h3 => ?_) (fun h3 => ?_)
      · rw [h3, cond_true] at hq
        refine pq_perm (L := [(0, .ref 185), (1, .int x1), (2, .int x2)]) (leqn_of ⟨rfl, rfl, rfl, trivial⟩ ⟨rfl, rfl, rfl, trivial⟩ ⟨rfl, rfl, rfl, rfl, trivial⟩) ?_
        exact pq_le (by omega) (hx1 hq.symm)
      · rw [h3, cond_false] at hq
        refine pq_s hB 2 (pc' := 40) (L' := [(3, .int v2), (0, .ref 185), (1, .int x1), (2, .int x2)]) (st' := [.int x2, .ref 185]) (I' := I2) (J' := J2) (by with_unfolding_all rfl) ?_
        generalize hc4 : f261_185 I2 J2 x2 = q4 at hq
        obtain ⟨v4, _, _⟩ := q4
        dsimp only at hq
        refine pq_1 rfl rfl rfl rfl (f261_185_pq hB hc4) ?_
        rintro _ I4 J4 ⟨rfl, rfl, rfl⟩
        refine pq_ifn hB rfl (fun h5 => ?_) (fun h5 => ?_)
        · rw [h5, cond_true] at hq
          refine pq_s hB 2 (pc' := 2) (L' := [(2, .int (x2 + 1)), (3, .int v2), (0, .ref 185), (1, .int x1)]) (st' := []) (I' := I4) (J' := J4) (by with_unfolding_all rfl) ?_
          refine pq_perm (L := [(0, .ref 185), (1, .int x1), (2, .int (x2 + 1))]) (leqn_of ⟨rfl, rfl, rfl, trivial⟩ ⟨rfl, rfl, rfl, trivial⟩ ⟨rfl, rfl, rfl, rfl, trivial⟩) ?_
          exact f312_185_l2_pq hB k (by omega) b m (by omega) (by omega) hq hx0 hx1
        · rw [h5, cond_false] at hq
          refine pq_s hB 14 (pc' := 64) (L' := [(3, .int v2), (0, .ref 185), (1, .int x1), (2, .int x2)]) (st' := [.int (I4 186 (((x1 + v2) + 5)).toNatClampNeg), .int (I4 186 ((v2 + 5)).toNatClampNeg)]) (I' := I4) (J' := J4) (by with_unfolding_all rfl) ?_
          refine pq_icn hB rfl (fun h6 => ?_) (fun h6 => ?_)
          · rw [h6, cond_true] at hq
            refine pq_s hB 2 (pc' := 2) (L' := [(2, .int (x2 + 1)), (3, .int v2), (0, .ref 185), (1, .int x1)]) (st' := []) (I' := I4) (J' := J4) (by with_unfolding_all rfl) ?_
            refine pq_perm (L := [(0, .ref 185), (1, .int x1), (2, .int (x2 + 1))]) (leqn_of ⟨rfl, rfl, rfl, trivial⟩ ⟨rfl, rfl, rfl, trivial⟩ ⟨rfl, rfl, rfl, rfl, trivial⟩) ?_
            exact f312_185_l2_pq hB k (by omega) b m (by omega) (by omega) hq hx0 hx1
          · rw [h6, cond_false] at hq
            refine pq_perm (L := [(0, .ref 185), (1, .int x1), (2, .int x2)]) (leqn_of ⟨rfl, rfl, rfl, trivial⟩ ⟨rfl, rfl, rfl, trivial⟩ ⟨rfl, rfl, rfl, rfl, trivial⟩) ?_
            exact pq_le (by omega) (hx1 hq.symm)
-- LPModel.isAsIn
def f312_185 (N : Nat) (I : tI) (J : tJ) (a0 : Int32) : Option (Int32 × tI × tJ) :=
  (match f312_185_l2 N N I J a0 0 with | none => none | some (k1, y1_1, y1_2, I1, J1) => bif Nat.beq k1 0 then (some (1, I1, J1)) else some (0, I1, J1))
set_option maxRecDepth 100000 in
theorem f312_185_pq {sc : List Int32} {B : xM} {N : Nat} {I : tI} {J : tJ} {a0 : Int32} (hB : kB pT B) : ∀ {X : Option (Int32 × tI × tJ)}, f312_185 N I J a0 = X → pq sc B N (xt_312, 4, 3) 0 [(0, .ref 185), (1, .int a0)] [] I J (fun v I1 J1 => ∃ a, v = some (.int a) ∧ X = some (a, I1, J1)) := by
  intro X hq
  unfold f312_185 at hq
  have hle : N ≤ N := Nat.le_refl N
  refine pq_s hB 2 (pc' := 2) (L' := [(2, .int 0), (0, .ref 185), (1, .int a0)]) (st' := []) (I' := I) (J' := J) (by with_unfolding_all rfl) ?_
  refine pq_perm (L := [(0, .ref 185), (1, .int a0), (2, .int 0)]) (leqn_of ⟨rfl, rfl, rfl, trivial⟩ ⟨rfl, rfl, rfl, trivial⟩ ⟨rfl, rfl, rfl, trivial⟩) ?_
  refine f312_185_l2_pq hB N (Nat.le_refl N) N N hle (Nat.le_refl N) rfl ?_ ?_
  ·
    intro y1_1 y1_2 I1 J1 hc1
    rw [hc1] at hq
    dsimp only at hq
    rw [show Nat.beq 0 0 = true from rfl, cond_true] at hq
    refine pq_s hB 1 (pc' := 76) (L' := [(0, .ref 185), (1, .int y1_1), (2, .int y1_2)]) (st' := [.int 1]) (I' := I1) (J' := J1) (by with_unfolding_all rfl) ?_
    subst hq
    exact pq_2i (x := 1) rfl ⟨_, rfl, rfl⟩
  ·
    intro y1_1 y1_2 I1 J1 hc1
    rw [hc1] at hq
    dsimp only at hq
    rw [show Nat.beq 1 0 = false from rfl, cond_false] at hq
    refine pq_s hB 1 (pc' := 68) (L' := [(0, .ref 185), (1, .int y1_1), (2, .int y1_2)]) (st' := [.int 0]) (I' := I1) (J' := J1) (by with_unfolding_all rfl) ?_
    subst hq
    exact pq_2i (x := 0) rfl ⟨_, rfl, rfl⟩
-- LPModel.again, the loop at 11, to [45]
def f313_185_l11 (N : Nat) : Nat → tI → tJ → Int32 → Int32 → Option (Int32 × Int32 × tI × tJ)
  | 0, _, _, _, _ => none
  | k + 1, I, J, x1, x2 =>
    bif xcmp .gt x2 200 then some (x1, x2, I, J) else bif xcmp .ne x1 (-1) then some (x1, x2, I, J) else (match f284_185 N I J with | none => none | some (_, I4, J4) => (match f312_185 N I4 J4 3720 with | none => none | some (v5, I5, J5) => bif xcmp .eq v5 0 then f313_185_l11 N k I5 J5 x1 (x2 + 1) else f313_185_l11 N k I5 J5 x2 (x2 + 1)))
set_option maxRecDepth 100000 in
theorem f313_185_l11_pq {sc : List Int32} {B : xM} {N : Nat} {P : Option Value → tI → tJ → Prop} (hB : kB pT B) : ∀ (k : Nat), k ≤ N → ∀ (b m : Nat), b ≤ k → b ≤ m → ∀ {I : tI} {J : tJ} {x1 : Int32} {x2 : Int32} {Y : Option (Int32 × Int32 × tI × tJ)}, f313_185_l11 N k I J x1 x2 = Y → (∀ {y1 : Int32} {y2 : Int32} {I1 : tI} {J1 : tJ}, Y = some (y1, y2, I1, J1) → pq sc B m (xt_313, 3, 1) 45 [(0, .ref 185), (1, .int y1), (2, .int y2)] [] I1 J1 P) → pq sc B b (xt_313, 3, 1) 11 [(0, .ref 185), (1, .int x1), (2, .int x2)] [] I J P
  | 0, _, b, _, hb, _, _, _, _, _, _, _, _ => by
    have e : b = 0 := by omega
    subst e
    exact pq_zero
  | _ + 1, _, 0, _, _, _, _, _, _, _, _, _, _ => pq_zero
  | k + 1, hk, b + 1, m, hb, hm, I, J, x1, x2, Y, hq, hx0 => by
    unfold f313_185_l11 at hq
    have hle : b ≤ N := by omega
    refine pq_s1 hB 1 (pc' := 15) (L' := [(0, .ref 185), (1, .int x1), (2, .int x2)]) (st' := [.int 200, .int x2]) (I' := I) (J' := J) (by with_unfolding_all rfl) ?_
    refine pq_icn hB rfl (fun h2 => ?_) (fun h2 => ?_)
    · rw [h2, cond_true] at hq
      exact pq_le (by omega) (hx0 hq.symm)
    · rw [h2, cond_false] at hq
      refine pq_s hB 2 (pc' := 20) (L' := [(0, .ref 185), (1, .int x1), (2, .int x2)]) (st' := [.int (-1), .int x1]) (I' := I) (J' := J) (by with_unfolding_all rfl) ?_
      refine pq_icn hB rfl (fun h3 => ?_) (fun h3 => ?_)
      · rw [h3, cond_true] at hq
        exact pq_le (by omega) (hx0 hq.symm)
      · rw [h3, cond_false] at hq
        refine pq_s hB 1 (pc' := 24) (L' := [(0, .ref 185), (1, .int x1), (2, .int x2)]) (st' := [.ref 185]) (I' := I) (J' := J) (by with_unfolding_all rfl) ?_
        refine pq_1 rfl rfl rfl rfl (pq_le hle (f284_185_pq hB rfl)) ?_
        rintro _ I4 J4 ⟨rfl, hc4⟩
        rw [hc4] at hq
        dsimp only at hq
        refine pq_s hB 2 (pc' := 31) (L' := [(0, .ref 185), (1, .int x1), (2, .int x2)]) (st' := [.int 3720, .ref 185]) (I' := I4) (J' := J4) (by with_unfolding_all rfl) ?_
        refine pq_1 rfl rfl rfl rfl (pq_le hle (f312_185_pq hB rfl)) ?_
        rintro _ I5 J5 ⟨v5, rfl, hc5⟩
        rw [hc5] at hq
        dsimp only at hq
        refine pq_ifn hB rfl (fun h6 => ?_) (fun h6 => ?_)
        · rw [h6, cond_true] at hq
          refine pq_s hB 2 (pc' := 11) (L' := [(2, .int (x2 + 1)), (0, .ref 185), (1, .int x1)]) (st' := []) (I' := I5) (J' := J5) (by with_unfolding_all rfl) ?_
          refine pq_perm (L := [(0, .ref 185), (1, .int x1), (2, .int (x2 + 1))]) (leqn_of ⟨rfl, rfl, rfl, trivial⟩ ⟨rfl, rfl, rfl, trivial⟩ ⟨rfl, rfl, rfl, trivial⟩) ?_
          exact f313_185_l11_pq hB k (by omega) b m (by omega) (by omega) hq hx0
        · rw [h6, cond_false] at hq
          refine pq_s hB 4 (pc' := 11) (L' := [(2, .int (x2 + 1)), (1, .int x2), (0, .ref 185)]) (st' := []) (I' := I5) (J' := J5) (by with_unfolding_all rfl) ?_
          refine pq_perm (L := [(0, .ref 185), (1, .int x2), (2, .int (x2 + 1))]) (leqn_of ⟨rfl, rfl, rfl, trivial⟩ ⟨rfl, rfl, rfl, trivial⟩ ⟨rfl, rfl, rfl, trivial⟩) ?_
          exact f313_185_l11_pq hB k (by omega) b m (by omega) (by omega) hq hx0
-- LPModel.again
def f313_185 (N : Nat) (I : tI) (J : tJ) : Option (Int32 × tI × tJ) :=
  (match f296_185 N I J 3720 with | none => none | some (_, I1, J1) => (match f313_185_l11 N N I1 J1 (-1) 1 with | none => none | some (y2_1, y2_2, I2, J2) => (match f297_185 N I2 J2 3720 with | none => none | some (_, I3, J3) => (match f207_185 I3 J3 y2_1 with | (v4, I4, J4) => some (v4, I4, J4)))))
set_option maxRecDepth 100000 in
theorem f313_185_pq {sc : List Int32} {B : xM} {N : Nat} {I : tI} {J : tJ} (hB : kB pT B) : ∀ {X : Option (Int32 × tI × tJ)}, f313_185 N I J = X → pq sc B N (xt_313, 3, 1) 0 [(0, .ref 185)] [] I J (fun v I1 J1 => ∃ a, v = some (.int a) ∧ X = some (a, I1, J1)) := by
  intro X hq
  unfold f313_185 at hq
  have hle : N ≤ N := Nat.le_refl N
  refine pq_s hB 2 (pc' := 4) (L' := [(0, .ref 185)]) (st' := [.int 3720, .ref 185]) (I' := I) (J' := J) (by with_unfolding_all rfl) ?_
  refine pq_1 rfl rfl rfl rfl (pq_le hle (f296_185_pq hB rfl)) ?_
  rintro _ I1 J1 ⟨rfl, hc1⟩
  rw [hc1] at hq
  dsimp only at hq
  refine pq_s hB 4 (pc' := 11) (L' := [(2, .int 1), (1, .int (-1)), (0, .ref 185)]) (st' := []) (I' := I1) (J' := J1) (by with_unfolding_all rfl) ?_
  refine pq_perm (L := [(0, .ref 185), (1, .int (-1)), (2, .int 1)]) (leqn_of ⟨rfl, rfl, rfl, trivial⟩ ⟨rfl, rfl, rfl, trivial⟩ ⟨rfl, rfl, rfl, trivial⟩) ?_
  refine f313_185_l11_pq hB N (Nat.le_refl N) N N hle (Nat.le_refl N) rfl ?_
  intro y2_1 y2_2 I2 J2 hc2
  rw [hc2] at hq
  dsimp only at hq
  refine pq_s hB 2 (pc' := 49) (L' := [(0, .ref 185), (1, .int y2_1), (2, .int y2_2)]) (st' := [.int 3720, .ref 185]) (I' := I2) (J' := J2) (by with_unfolding_all rfl) ?_
  refine pq_1 rfl rfl rfl rfl (pq_le hle (f297_185_pq hB rfl)) ?_
  rintro _ I3 J3 ⟨rfl, hc3⟩
  rw [hc3] at hq
  dsimp only at hq
  refine pq_s hB 2 (pc' := 54) (L' := [(0, .ref 185), (1, .int y2_1), (2, .int y2_2)]) (st' := [.int y2_1, .ref 185]) (I' := I3) (J' := J3) (by with_unfolding_all rfl) ?_
  generalize hc4 : f207_185 I3 J3 y2_1 = q4 at hq
  obtain ⟨v4, _, _⟩ := q4
  dsimp only at hq
  refine pq_1 rfl rfl rfl rfl (f207_185_pq hB hc4) ?_
  rintro _ I4 J4 ⟨rfl, rfl, rfl⟩
  subst hq
  exact pq_2i (x := v4) rfl ⟨_, rfl, rfl⟩
-- LPModel.stays, the loop at 34, to [103]
def f314_185_l34 (N : Nat) : Nat → tI → tJ → Int32 → Int32 → Int32 → Int32 → Option (Int32 × Int32 × Int32 × Int32 × tI × tJ)
  | 0, _, _, _, _, _, _ => none
  | k + 1, I, J, x1, x2, x3, x4 =>
    bif xcmp .ge x4 x2 then some (x1, x2, x3, x4, I, J) else (match f261_185 I J x1 with | (v8, I8, J8) => bif xcmp .eq v8 0 then (match f284_185 N I8 J8 with | none => none | some (_, I10, J10) => bif xcmp .eq (-1) (-1) then f314_185_l34 N k I10 J10 x1 x2 (x3 + 0) (x4 + 1) else (match f261_185 I10 J10 x1 with | (v12, I12, J12) => bif xcmp .eq v12 0 then f314_185_l34 N k I12 J12 x1 x2 (x3 + 0) (x4 + 1) else (match f260_185 I12 J12 x1 5 with | (v14, I14, J14) => bif xcmp .ne v14 (-1) then f314_185_l34 N k I14 J14 x1 x2 (x3 + 0) (x4 + 1) else f314_185_l34 N k I14 J14 x1 x2 (x3 + 1) (x4 + 1)))) else (match f260_185 I8 J8 x1 5 with | (v16, I16, J16) => (match f284_185 N I16 J16 with | none => none | some (_, I17, J17) => bif xcmp .eq v16 (-1) then f314_185_l34 N k I17 J17 x1 x2 (x3 + 0) (x4 + 1) else (match f261_185 I17 J17 x1 with | (v19, I19, J19) => bif xcmp .eq v19 0 then f314_185_l34 N k I19 J19 x1 x2 (x3 + 0) (x4 + 1) else (match f260_185 I19 J19 x1 5 with | (v21, I21, J21) => bif xcmp .ne v21 v16 then f314_185_l34 N k I21 J21 x1 x2 (x3 + 0) (x4 + 1) else f314_185_l34 N k I21 J21 x1 x2 (x3 + 1) (x4 + 1))))))
set_option maxRecDepth 100000 in
theorem f314_185_l34_pq {sc : List Int32} {B : xM} {N : Nat} {P : Option Value → tI → tJ → Prop} (hB : kB pT B) : ∀ (k : Nat), k ≤ N → ∀ (b m : Nat), b ≤ k → b ≤ m → ∀ {I : tI} {J : tJ} {x1 : Int32} {x2 : Int32} {x3 : Int32} {x4 : Int32} {Y : Option (Int32 × Int32 × Int32 × Int32 × tI × tJ)}, f314_185_l34 N k I J x1 x2 x3 x4 = Y → (∀ {y1 : Int32} {y2 : Int32} {y3 : Int32} {y4 : Int32} {I1 : tI} {J1 : tJ}, Y = some (y1, y2, y3, y4, I1, J1) → pq sc B m (xt_314, 6, 1) 103 [(0, .ref 185), (1, .int y1), (2, .int y2), (3, .int y3), (4, .int y4)] [] I1 J1 P) → pq sc B b (xt_314, 6, 1) 34 [(0, .ref 185), (1, .int x1), (2, .int x2), (3, .int x3), (4, .int x4)] [] I J P
  | 0, _, b, _, hb, _, _, _, _, _, _, _, _, _, _ => by
    have e : b = 0 := by omega
    subst e
    exact pq_zero
  | _ + 1, _, 0, _, _, _, _, _, _, _, _, _, _, _, _ => pq_zero
  | k + 1, hk, b + 1, m, hb, hm, I, J, x1, x2, x3, x4, Y, hq, hx0 => by
    unfold f314_185_l34 at hq
    have hle : b ≤ N := by omega
    refine pq_s1 hB 1 (pc' := 37) (L' := [(0, .ref 185), (1, .int x1), (2, .int x2), (3, .int x3), (4, .int x4)]) (st' := [.int x2, .int x4]) (I' := I) (J' := J) (by with_unfolding_all rfl) ?_
    refine pq_icn hB rfl (fun h7 => ?_) (fun h7 => ?_)
    · rw [h7, cond_true] at hq
      exact pq_le (by omega) (hx0 hq.symm)
    · rw [h7, cond_false] at hq
      refine pq_s hB 2 (pc' := 42) (L' := [(0, .ref 185), (1, .int x1), (2, .int x2), (3, .int x3), (4, .int x4)]) (st' := [.int x1, .ref 185]) (I' := I) (J' := J) (by with_unfolding_all rfl) ?_
      generalize hc8 : f261_185 I J x1 = q8 at hq
      obtain ⟨v8, _, _⟩ := q8
      dsimp only at hq
      refine pq_1 rfl rfl rfl rfl (f261_185_pq hB hc8) ?_
      rintro _ I8 J8 ⟨rfl, rfl, rfl⟩
      refine pq_ifn hB rfl (fun h9 => ?_) (fun h9 => ?_)
      · rw [h9, cond_true] at hq
        refine pq_s hB 3 (pc' := 61) (L' := [(5, .int (-1)), (0, .ref 185), (1, .int x1), (2, .int x2), (3, .int x3), (4, .int x4)]) (st' := [.ref 185]) (I' := I8) (J' := J8) (by with_unfolding_all rfl) ?_
        refine pq_1 rfl rfl rfl rfl (pq_le hle (f284_185_pq hB rfl)) ?_
        rintro _ I10 J10 ⟨rfl, hc10⟩
        rw [hc10] at hq
        dsimp only at hq
        refine pq_s hB 3 (pc' := 68) (L' := [(5, .int (-1)), (0, .ref 185), (1, .int x1), (2, .int x2), (3, .int x3), (4, .int x4)]) (st' := [.int (-1), .int (-1), .int x3]) (I' := I10) (J' := J10) (by with_unfolding_all rfl) ?_
        refine pq_icn hB rfl (fun h11 => ?_) (fun h11 => ?_)
        · rw [h11, cond_true] at hq
          refine pq_s hB 5 (pc' := 34) (L' := [(4, .int (x4 + 1)), (3, .int (x3 + 0)), (5, .int (-1)), (0, .ref 185), (1, .int x1), (2, .int x2)]) (st' := []) (I' := I10) (J' := J10) (by with_unfolding_all rfl) ?_
          refine pq_perm (L := [(0, .ref 185), (1, .int x1), (2, .int x2), (3, .int (x3 + 0)), (4, .int (x4 + 1))]) (leqn_of ⟨rfl, rfl, rfl, rfl, rfl, trivial⟩ ⟨rfl, rfl, rfl, rfl, rfl, trivial⟩ ⟨rfl, rfl, rfl, rfl, rfl, rfl, trivial⟩) ?_
          exact f314_185_l34_pq hB k (by omega) b m (by omega) (by omega) hq hx0
        · rw [h11, cond_false] at hq
          refine pq_s hB 2 (pc' := 73) (L' := [(5, .int (-1)), (0, .ref 185), (1, .int x1), (2, .int x2), (3, .int x3), (4, .int x4)]) (st' := [.int x1, .ref 185, .int x3]) (I' := I10) (J' := J10) (by with_unfolding_all rfl) ?_
          generalize hc12 : f261_185 I10 J10 x1 = q12 at hq
          obtain ⟨v12, _, _⟩ := q12
          dsimp only at hq
          refine pq_1 rfl rfl rfl rfl (f261_185_pq hB hc12) ?_
          rintro _ I12 J12 ⟨rfl, rfl, rfl⟩
          refine pq_ifn hB rfl (fun h13 => ?_) (fun h13 => ?_)
          · rw [h13, cond_true] at hq
            refine pq_s hB 5 (pc' := 34) (L' := [(4, .int (x4 + 1)), (3, .int (x3 + 0)), (5, .int (-1)), (0, .ref 185), (1, .int x1), (2, .int x2)]) (st' := []) (I' := I12) (J' := J12) (by with_unfolding_all rfl) ?_
            refine pq_perm (L := [(0, .ref 185), (1, .int x1), (2, .int x2), (3, .int (x3 + 0)), (4, .int (x4 + 1))]) (leqn_of ⟨rfl, rfl, rfl, rfl, rfl, trivial⟩ ⟨rfl, rfl, rfl, rfl, rfl, trivial⟩ ⟨rfl, rfl, rfl, rfl, rfl, rfl, trivial⟩) ?_
            exact f314_185_l34_pq hB k (by omega) b m (by omega) (by omega) hq hx0
          · rw [h13, cond_false] at hq
            refine pq_s hB 3 (pc' := 82) (L' := [(5, .int (-1)), (0, .ref 185), (1, .int x1), (2, .int x2), (3, .int x3), (4, .int x4)]) (st' := [.int 5, .int x1, .ref 185, .int x3]) (I' := I12) (J' := J12) (by with_unfolding_all rfl) ?_
            generalize hc14 : f260_185 I12 J12 x1 5 = q14 at hq
            obtain ⟨v14, _, _⟩ := q14
            dsimp only at hq
            refine pq_1 rfl rfl rfl rfl (f260_185_pq hB hc14) ?_
            rintro _ I14 J14 ⟨rfl, rfl, rfl⟩
            refine pq_s hB 1 (pc' := 87) (L' := [(5, .int (-1)), (0, .ref 185), (1, .int x1), (2, .int x2), (3, .int x3), (4, .int x4)]) (st' := [.int (-1), .int v14, .int x3]) (I' := I14) (J' := J14) (by with_unfolding_all rfl) ?_
            refine pq_icn hB rfl (fun h15 => ?_) (fun h15 => ?_)
            · rw [h15, cond_true] at hq
              refine pq_s hB 5 (pc' := 34) (L' := [(4, .int (x4 + 1)), (3, .int (x3 + 0)), (5, .int (-1)), (0, .ref 185), (1, .int x1), (2, .int x2)]) (st' := []) (I' := I14) (J' := J14) (by with_unfolding_all rfl) ?_
              refine pq_perm (L := [(0, .ref 185), (1, .int x1), (2, .int x2), (3, .int (x3 + 0)), (4, .int (x4 + 1))]) (leqn_of ⟨rfl, rfl, rfl, rfl, rfl, trivial⟩ ⟨rfl, rfl, rfl, rfl, rfl, trivial⟩ ⟨rfl, rfl, rfl, rfl, rfl, rfl, trivial⟩) ?_
              exact f314_185_l34_pq hB k (by omega) b m (by omega) (by omega) hq hx0
            · rw [h15, cond_false] at hq
              refine pq_s hB 6 (pc' := 34) (L' := [(4, .int (x4 + 1)), (3, .int (x3 + 1)), (5, .int (-1)), (0, .ref 185), (1, .int x1), (2, .int x2)]) (st' := []) (I' := I14) (J' := J14) (by with_unfolding_all rfl) ?_
              refine pq_perm (L := [(0, .ref 185), (1, .int x1), (2, .int x2), (3, .int (x3 + 1)), (4, .int (x4 + 1))]) (leqn_of ⟨rfl, rfl, rfl, rfl, rfl, trivial⟩ ⟨rfl, rfl, rfl, rfl, rfl, trivial⟩ ⟨rfl, rfl, rfl, rfl, rfl, rfl, trivial⟩) ?_
              exact f314_185_l34_pq hB k (by omega) b m (by omega) (by omega) hq hx0
      · rw [h9, cond_false] at hq
        refine pq_s hB 3 (pc' := 51) (L' := [(0, .ref 185), (1, .int x1), (2, .int x2), (3, .int x3), (4, .int x4)]) (st' := [.int 5, .int x1, .ref 185]) (I' := I8) (J' := J8) (by with_unfolding_all rfl) ?_
        generalize hc16 : f260_185 I8 J8 x1 5 = q16 at hq
        obtain ⟨v16, _, _⟩ := q16
        dsimp only at hq
        refine pq_1 rfl rfl rfl rfl (f260_185_pq hB hc16) ?_
        rintro _ I16 J16 ⟨rfl, rfl, rfl⟩
        refine pq_s hB 3 (pc' := 61) (L' := [(5, .int v16), (0, .ref 185), (1, .int x1), (2, .int x2), (3, .int x3), (4, .int x4)]) (st' := [.ref 185]) (I' := I16) (J' := J16) (by with_unfolding_all rfl) ?_
        refine pq_1 rfl rfl rfl rfl (pq_le hle (f284_185_pq hB rfl)) ?_
        rintro _ I17 J17 ⟨rfl, hc17⟩
        rw [hc17] at hq
        dsimp only at hq
        refine pq_s hB 3 (pc' := 68) (L' := [(5, .int v16), (0, .ref 185), (1, .int x1), (2, .int x2), (3, .int x3), (4, .int x4)]) (st' := [.int (-1), .int v16, .int x3]) (I' := I17) (J' := J17) (by with_unfolding_all rfl) ?_
        refine pq_icn hB rfl (fun h18 => ?_) (fun h18 => ?_)
        · rw [h18, cond_true] at hq
          refine pq_s hB 5 (pc' := 34) (L' := [(4, .int (x4 + 1)), (3, .int (x3 + 0)), (5, .int v16), (0, .ref 185), (1, .int x1), (2, .int x2)]) (st' := []) (I' := I17) (J' := J17) (by with_unfolding_all rfl) ?_
          refine pq_perm (L := [(0, .ref 185), (1, .int x1), (2, .int x2), (3, .int (x3 + 0)), (4, .int (x4 + 1))]) (leqn_of ⟨rfl, rfl, rfl, rfl, rfl, trivial⟩ ⟨rfl, rfl, rfl, rfl, rfl, trivial⟩ ⟨rfl, rfl, rfl, rfl, rfl, rfl, trivial⟩) ?_
          exact f314_185_l34_pq hB k (by omega) b m (by omega) (by omega) hq hx0
        · rw [h18, cond_false] at hq
          refine pq_s hB 2 (pc' := 73) (L' := [(5, .int v16), (0, .ref 185), (1, .int x1), (2, .int x2), (3, .int x3), (4, .int x4)]) (st' := [.int x1, .ref 185, .int x3]) (I' := I17) (J' := J17) (by with_unfolding_all rfl) ?_
          generalize hc19 : f261_185 I17 J17 x1 = q19 at hq
          obtain ⟨v19, _, _⟩ := q19
          dsimp only at hq
          refine pq_1 rfl rfl rfl rfl (f261_185_pq hB hc19) ?_
          rintro _ I19 J19 ⟨rfl, rfl, rfl⟩
          refine pq_ifn hB rfl (fun h20 => ?_) (fun h20 => ?_)
          · rw [h20, cond_true] at hq
            refine pq_s hB 5 (pc' := 34) (L' := [(4, .int (x4 + 1)), (3, .int (x3 + 0)), (5, .int v16), (0, .ref 185), (1, .int x1), (2, .int x2)]) (st' := []) (I' := I19) (J' := J19) (by with_unfolding_all rfl) ?_
            refine pq_perm (L := [(0, .ref 185), (1, .int x1), (2, .int x2), (3, .int (x3 + 0)), (4, .int (x4 + 1))]) (leqn_of ⟨rfl, rfl, rfl, rfl, rfl, trivial⟩ ⟨rfl, rfl, rfl, rfl, rfl, trivial⟩ ⟨rfl, rfl, rfl, rfl, rfl, rfl, trivial⟩) ?_
            exact f314_185_l34_pq hB k (by omega) b m (by omega) (by omega) hq hx0
          · rw [h20, cond_false] at hq
            refine pq_s hB 3 (pc' := 82) (L' := [(5, .int v16), (0, .ref 185), (1, .int x1), (2, .int x2), (3, .int x3), (4, .int x4)]) (st' := [.int 5, .int x1, .ref 185, .int x3]) (I' := I19) (J' := J19) (by with_unfolding_all rfl) ?_
            generalize hc21 : f260_185 I19 J19 x1 5 = q21 at hq
            obtain ⟨v21, _, _⟩ := q21
            dsimp only at hq
            refine pq_1 rfl rfl rfl rfl (f260_185_pq hB hc21) ?_
            rintro _ I21 J21 ⟨rfl, rfl, rfl⟩
            refine pq_s hB 1 (pc' := 87) (L' := [(5, .int v16), (0, .ref 185), (1, .int x1), (2, .int x2), (3, .int x3), (4, .int x4)]) (st' := [.int v16, .int v21, .int x3]) (I' := I21) (J' := J21) (by with_unfolding_all rfl) ?_
            refine pq_icn hB rfl (fun h22 => ?_) (fun h22 => ?_)
            · rw [h22, cond_true] at hq
              refine pq_s hB 5 (pc' := 34) (L' := [(4, .int (x4 + 1)), (3, .int (x3 + 0)), (5, .int v16), (0, .ref 185), (1, .int x1), (2, .int x2)]) (st' := []) (I' := I21) (J' := J21) (by with_unfolding_all rfl) ?_
              refine pq_perm (L := [(0, .ref 185), (1, .int x1), (2, .int x2), (3, .int (x3 + 0)), (4, .int (x4 + 1))]) (leqn_of ⟨rfl, rfl, rfl, rfl, rfl, trivial⟩ ⟨rfl, rfl, rfl, rfl, rfl, trivial⟩ ⟨rfl, rfl, rfl, rfl, rfl, rfl, trivial⟩) ?_
              exact f314_185_l34_pq hB k (by omega) b m (by omega) (by omega) hq hx0
            · rw [h22, cond_false] at hq
              refine pq_s hB 6 (pc' := 34) (L' := [(4, .int (x4 + 1)), (3, .int (x3 + 1)), (5, .int v16), (0, .ref 185), (1, .int x1), (2, .int x2)]) (st' := []) (I' := I21) (J' := J21) (by with_unfolding_all rfl) ?_
              refine pq_perm (L := [(0, .ref 185), (1, .int x1), (2, .int x2), (3, .int (x3 + 1)), (4, .int (x4 + 1))]) (leqn_of ⟨rfl, rfl, rfl, rfl, rfl, trivial⟩ ⟨rfl, rfl, rfl, rfl, rfl, trivial⟩ ⟨rfl, rfl, rfl, rfl, rfl, rfl, trivial⟩) ?_
              exact f314_185_l34_pq hB k (by omega) b m (by omega) (by omega) hq hx0
-- LPModel.stays
def f314_185 (N : Nat) (I : tI) (J : tJ) (a0 : Int32) (a1 : Int32) : Option (Int32 × tI × tJ) :=
  (match f254_185 I J a0 with | (v1, I1, J1) => bif xcmp .eq v1 0 then (match f205_185 I1 J1 1 with | (v3, I3, J3) => some (v3, I3, J3)) else (match f298 I1 J1 a1 1 with | (v4, I4, J4) => bif xcmp .ne v4 0 then (match f296_185 N I4 J4 3720 with | none => none | some (_, I6, J6) => (match f314_185_l34 N N I6 J6 a0 a1 0 0 with | none => none | some (y7_1, y7_2, y7_3, y7_4, I7, J7) => (match f297_185 N I7 J7 3720 with | none => none | some (_, I8, J8) => (match f206_185 I8 J8 y7_3 with | (v9, I9, J9) => some (v9, I9, J9))))) else (match f205_185 I4 J4 1 with | (v10, I10, J10) => some (v10, I10, J10))))
set_option maxRecDepth 100000 in
theorem f314_185_pq {sc : List Int32} {B : xM} {N : Nat} {I : tI} {J : tJ} {a0 : Int32} {a1 : Int32} (hB : kB pT B) : ∀ {X : Option (Int32 × tI × tJ)}, f314_185 N I J a0 a1 = X → pq sc B N (xt_314, 6, 1) 0 [(0, .ref 185), (1, .int a0), (2, .int a1)] [] I J (fun v I1 J1 => ∃ a, v = some (.int a) ∧ X = some (a, I1, J1)) := by
  intro X hq
  unfold f314_185 at hq
  have hle : N ≤ N := Nat.le_refl N
  refine pq_s hB 2 (pc' := 2) (L' := [(0, .ref 185), (1, .int a0), (2, .int a1)]) (st' := [.int a0, .ref 185]) (I' := I) (J' := J) (by with_unfolding_all rfl) ?_
  generalize hc1 : f254_185 I J a0 = q1 at hq
  obtain ⟨v1, _, _⟩ := q1
  dsimp only at hq
  refine pq_1 rfl rfl rfl rfl (f254_185_pq hB hc1) ?_
  rintro _ I1 J1 ⟨rfl, rfl, rfl⟩
  refine pq_ifn hB rfl (fun h2 => ?_) (fun h2 => ?_)
  · rw [h2, cond_true] at hq
    refine pq_s hB 2 (pc' := 18) (L' := [(0, .ref 185), (1, .int a0), (2, .int a1)]) (st' := [.int 1, .ref 185]) (I' := I1) (J' := J1) (by with_unfolding_all rfl) ?_
    generalize hc3 : f205_185 I1 J1 1 = q3 at hq
    obtain ⟨v3, _, _⟩ := q3
    dsimp only at hq
    refine pq_1 rfl rfl rfl rfl (f205_185_pq hB hc3) ?_
    rintro _ I3 J3 ⟨rfl, rfl, rfl⟩
    subst hq
    exact pq_2i (x := v3) rfl ⟨_, rfl, rfl⟩
  · rw [h2, cond_false] at hq
    refine pq_s hB 2 (pc' := 10) (L' := [(0, .ref 185), (1, .int a0), (2, .int a1)]) (st' := [.int 1, .int a1]) (I' := I1) (J' := J1) (by with_unfolding_all rfl) ?_
    generalize hc4 : f298 I1 J1 a1 1 = q4 at hq
    obtain ⟨v4, _, _⟩ := q4
    dsimp only at hq
    refine pq_1 rfl rfl rfl rfl (f298_pq hB hc4) ?_
    rintro _ I4 J4 ⟨rfl, rfl, rfl⟩
    refine pq_ifn hB rfl (fun h5 => ?_) (fun h5 => ?_)
    · rw [h5, cond_true] at hq
      refine pq_s hB 2 (pc' := 26) (L' := [(0, .ref 185), (1, .int a0), (2, .int a1)]) (st' := [.int 3720, .ref 185]) (I' := I4) (J' := J4) (by with_unfolding_all rfl) ?_
      refine pq_1 rfl rfl rfl rfl (pq_le hle (f296_185_pq hB rfl)) ?_
      rintro _ I6 J6 ⟨rfl, hc6⟩
      rw [hc6] at hq
      dsimp only at hq
      refine pq_s hB 4 (pc' := 34) (L' := [(4, .int 0), (3, .int 0), (0, .ref 185), (1, .int a0), (2, .int a1)]) (st' := []) (I' := I6) (J' := J6) (by with_unfolding_all rfl) ?_
      refine pq_perm (L := [(0, .ref 185), (1, .int a0), (2, .int a1), (3, .int 0), (4, .int 0)]) (leqn_of ⟨rfl, rfl, rfl, rfl, rfl, trivial⟩ ⟨rfl, rfl, rfl, rfl, rfl, trivial⟩ ⟨rfl, rfl, rfl, rfl, rfl, trivial⟩) ?_
      refine f314_185_l34_pq hB N (Nat.le_refl N) N N hle (Nat.le_refl N) rfl ?_
      intro y7_1 y7_2 y7_3 y7_4 I7 J7 hc7
      rw [hc7] at hq
      dsimp only at hq
      refine pq_s hB 2 (pc' := 107) (L' := [(0, .ref 185), (1, .int y7_1), (2, .int y7_2), (3, .int y7_3), (4, .int y7_4)]) (st' := [.int 3720, .ref 185]) (I' := I7) (J' := J7) (by with_unfolding_all rfl) ?_
      refine pq_1 rfl rfl rfl rfl (pq_le hle (f297_185_pq hB rfl)) ?_
      rintro _ I8 J8 ⟨rfl, hc8⟩
      rw [hc8] at hq
      dsimp only at hq
      refine pq_s hB 2 (pc' := 112) (L' := [(0, .ref 185), (1, .int y7_1), (2, .int y7_2), (3, .int y7_3), (4, .int y7_4)]) (st' := [.int y7_3, .ref 185]) (I' := I8) (J' := J8) (by with_unfolding_all rfl) ?_
      generalize hc9 : f206_185 I8 J8 y7_3 = q9 at hq
      obtain ⟨v9, _, _⟩ := q9
      dsimp only at hq
      refine pq_1 rfl rfl rfl rfl (f206_185_pq hB hc9) ?_
      rintro _ I9 J9 ⟨rfl, rfl, rfl⟩
      subst hq
      exact pq_2i (x := v9) rfl ⟨_, rfl, rfl⟩
    · rw [h5, cond_false] at hq
      refine pq_s hB 2 (pc' := 18) (L' := [(0, .ref 185), (1, .int a0), (2, .int a1)]) (st' := [.int 1, .ref 185]) (I' := I4) (J' := J4) (by with_unfolding_all rfl) ?_
      generalize hc10 : f205_185 I4 J4 1 = q10 at hq
      obtain ⟨v10, _, _⟩ := q10
      dsimp only at hq
      refine pq_1 rfl rfl rfl rfl (f205_185_pq hB hc10) ?_
      rintro _ I10 J10 ⟨rfl, rfl, rfl⟩
      subst hq
      exact pq_2i (x := v10) rfl ⟨_, rfl, rfl⟩
-- LPModel.isCover
def f315_185 (I : tI) (J : tJ) (a0 : Int32) (a1 : Int32) : Int32 × tI × tJ :=
  (match f216 I J ((a0).toInt64) 0 ((1 <<< ((Int32.toInt64 ((I 186 3))) &&& 63)) - 1) with | (v1, I1, J1) => bif xcmp .eq v1 0 then (0, I1, J1) else (match f216 I1 J1 ((a1).toInt64) 1 12 with | (v3, I3, J3) => bif xcmp .eq v3 0 then (0, I3, J3) else (1, I3, J3)))
set_option maxRecDepth 100000 in
theorem f315_185_pq {sc : List Int32} {B : xM} {n : Nat} {I : tI} {J : tJ} {a0 : Int32} {a1 : Int32} (hB : kB pT B) : ∀ {q : Int32 × tI × tJ}, f315_185 I J a0 a1 = q → pq sc B n (xt_315, 3, 3) 0 [(0, .ref 185), (1, .int a0), (2, .int a1)] [] I J (fun v I1 J1 => v = some (.int q.1) ∧ I1 = q.2.1 ∧ J1 = q.2.2) := by
  intro q hq
  unfold f315_185 at hq
  refine pq_s hB 11 (pc' := 13) (L' := [(0, .ref 185), (1, .int a0), (2, .int a1)]) (st' := [.long ((1 <<< ((Int32.toInt64 ((I 186 3))) &&& 63)) - 1), .long 0, .long (a0).toInt64]) (I' := I) (J' := J) (by with_unfolding_all rfl) ?_
  generalize hc1 : f216 I J ((a0).toInt64) 0 ((1 <<< ((Int32.toInt64 ((I 186 3))) &&& 63)) - 1) = q1 at hq
  obtain ⟨v1, _, _⟩ := q1
  dsimp only at hq
  refine pq_1 rfl rfl rfl rfl (f216_pq hB hc1) ?_
  rintro _ I1 J1 ⟨rfl, rfl, rfl⟩
  refine pq_ifn hB rfl (fun h2 => ?_) (fun h2 => ?_)
  · rw [h2, cond_true] at hq
    refine pq_s hB 1 (pc' := 36) (L' := [(0, .ref 185), (1, .int a0), (2, .int a1)]) (st' := [.int 0]) (I' := I1) (J' := J1) (by with_unfolding_all rfl) ?_
    subst hq
    exact pq_2i (x := 0) rfl ⟨rfl, rfl, rfl⟩
  · rw [h2, cond_false] at hq
    refine pq_s hB 4 (pc' := 25) (L' := [(0, .ref 185), (1, .int a0), (2, .int a1)]) (st' := [.long 12, .long 1, .long (a1).toInt64]) (I' := I1) (J' := J1) (by with_unfolding_all rfl) ?_
    generalize hc3 : f216 I1 J1 ((a1).toInt64) 1 12 = q3 at hq
    obtain ⟨v3, _, _⟩ := q3
    dsimp only at hq
    refine pq_1 rfl rfl rfl rfl (f216_pq hB hc3) ?_
    rintro _ I3 J3 ⟨rfl, rfl, rfl⟩
    refine pq_ifn hB rfl (fun h4 => ?_) (fun h4 => ?_)
    · rw [h4, cond_true] at hq
      refine pq_s hB 1 (pc' := 36) (L' := [(0, .ref 185), (1, .int a0), (2, .int a1)]) (st' := [.int 0]) (I' := I3) (J' := J3) (by with_unfolding_all rfl) ?_
      subst hq
      exact pq_2i (x := 0) rfl ⟨rfl, rfl, rfl⟩
    · rw [h4, cond_false] at hq
      refine pq_s hB 2 (pc' := 36) (L' := [(0, .ref 185), (1, .int a0), (2, .int a1)]) (st' := [.int 1]) (I' := I3) (J' := J3) (by with_unfolding_all rfl) ?_
      subst hq
      exact pq_2i (x := 1) rfl ⟨rfl, rfl, rfl⟩
-- LPModel.covering, the loop at 24, to [65]
def f317_185_l24 (N : Nat) : Nat → tI → tJ → Int32 → Int32 → Int32 → Int32 → Int32 → Int32 → Option (Int32 × Int32 × Int32 × Int32 × Int32 × Int32 × tI × tJ)
  | 0, _, _, _, _, _, _, _, _ => none
  | k + 1, I, J, x1, x2, x3, x4, x5, x6 =>
    bif xcmp .ge x6 x2 then some (x1, x2, x3, x4, x5, x6, I, J) else (match f258_185 I J x4 x6 with | (v4, I4, J4) => bif xcmp .eq v4 0 then f317_185_l24 N k I4 J4 x1 x2 x3 x4 (x5 ||| 0) (x6 + 1) else f317_185_l24 N k I4 J4 x1 x2 x3 x4 (x5 ||| (I4 194 ((x6 + 1)).toNatClampNeg)) (x6 + 1))
set_option maxRecDepth 100000 in
theorem f317_185_l24_pq {sc : List Int32} {B : xM} {N : Nat} {P : Option Value → tI → tJ → Prop} (hB : kB pT B) : ∀ (k : Nat), k ≤ N → ∀ (b m : Nat), b ≤ k → b ≤ m → ∀ {I : tI} {J : tJ} {x1 : Int32} {x2 : Int32} {x3 : Int32} {x4 : Int32} {x5 : Int32} {x6 : Int32} {Y : Option (Int32 × Int32 × Int32 × Int32 × Int32 × Int32 × tI × tJ)}, f317_185_l24 N k I J x1 x2 x3 x4 x5 x6 = Y → (∀ {y1 : Int32} {y2 : Int32} {y3 : Int32} {y4 : Int32} {y5 : Int32} {y6 : Int32} {I1 : tI} {J1 : tJ}, Y = some (y1, y2, y3, y4, y5, y6, I1, J1) → pq sc B m (xt_317, 7, 1) 65 [(0, .ref 185), (1, .int y1), (2, .int y2), (3, .int y3), (4, .int y4), (5, .int y5), (6, .int y6)] [] I1 J1 P) → pq sc B b (xt_317, 7, 1) 24 [(0, .ref 185), (1, .int x1), (2, .int x2), (3, .int x3), (4, .int x4), (5, .int x5), (6, .int x6)] [] I J P
  | 0, _, b, _, hb, _, _, _, _, _, _, _, _, _, _, _, _ => by
    have e : b = 0 := by omega
    subst e
    exact pq_zero
  | _ + 1, _, 0, _, _, _, _, _, _, _, _, _, _, _, _, _, _ => pq_zero
  | k + 1, hk, b + 1, m, hb, hm, I, J, x1, x2, x3, x4, x5, x6, Y, hq, hx0 => by
    unfold f317_185_l24 at hq
    have hle : b ≤ N := by omega
    refine pq_s1 hB 1 (pc' := 27) (L' := [(0, .ref 185), (1, .int x1), (2, .int x2), (3, .int x3), (4, .int x4), (5, .int x5), (6, .int x6)]) (st' := [.int x2, .int x6]) (I' := I) (J' := J) (by with_unfolding_all rfl) ?_
    refine pq_icn hB rfl (fun h3 => ?_) (fun h3 => ?_)
    · rw [h3, cond_true] at hq
      exact pq_le (by omega) (hx0 hq.symm)
    · rw [h3, cond_false] at hq
      refine pq_s hB 4 (pc' := 37) (L' := [(0, .ref 185), (1, .int x1), (2, .int x2), (3, .int x3), (4, .int x4), (5, .int x5), (6, .int x6)]) (st' := [.int x6, .int x4, .ref 185, .int x5]) (I' := I) (J' := J) (by with_unfolding_all rfl) ?_
      generalize hc4 : f258_185 I J x4 x6 = q4 at hq
      obtain ⟨v4, _, _⟩ := q4
      dsimp only at hq
      refine pq_1 rfl rfl rfl rfl (f258_185_pq hB hc4) ?_
      rintro _ I4 J4 ⟨rfl, rfl, rfl⟩
      refine pq_ifn hB rfl (fun h5 => ?_) (fun h5 => ?_)
      · rw [h5, cond_true] at hq
        refine pq_s hB 5 (pc' := 24) (L' := [(6, .int (x6 + 1)), (5, .int (x5 ||| 0)), (0, .ref 185), (1, .int x1), (2, .int x2), (3, .int x3), (4, .int x4)]) (st' := []) (I' := I4) (J' := J4) (by with_unfolding_all rfl) ?_
        refine pq_perm (L := [(0, .ref 185), (1, .int x1), (2, .int x2), (3, .int x3), (4, .int x4), (5, .int (x5 ||| 0)), (6, .int (x6 + 1))]) (leqn_of ⟨rfl, rfl, rfl, rfl, rfl, rfl, rfl, trivial⟩ ⟨rfl, rfl, rfl, rfl, rfl, rfl, rfl, trivial⟩ ⟨rfl, rfl, rfl, rfl, rfl, rfl, rfl, trivial⟩) ?_
        exact f317_185_l24_pq hB k (by omega) b m (by omega) (by omega) hq hx0
      · rw [h5, cond_false] at hq
        refine pq_s hB 11 (pc' := 24) (L' := [(6, .int (x6 + 1)), (5, .int (x5 ||| (I4 194 ((x6 + 1)).toNatClampNeg))), (0, .ref 185), (1, .int x1), (2, .int x2), (3, .int x3), (4, .int x4)]) (st' := []) (I' := I4) (J' := J4) (by with_unfolding_all rfl) ?_
        refine pq_perm (L := [(0, .ref 185), (1, .int x1), (2, .int x2), (3, .int x3), (4, .int x4), (5, .int (x5 ||| (I4 194 ((x6 + 1)).toNatClampNeg))), (6, .int (x6 + 1))]) (leqn_of ⟨rfl, rfl, rfl, rfl, rfl, rfl, rfl, trivial⟩ ⟨rfl, rfl, rfl, rfl, rfl, rfl, rfl, trivial⟩ ⟨rfl, rfl, rfl, rfl, rfl, rfl, rfl, trivial⟩) ?_
        exact f317_185_l24_pq hB k (by omega) b m (by omega) (by omega) hq hx0
-- LPModel.costOfSet, the loop at 4, to [46]
def f316_185_l4 (N : Nat) : Nat → tI → tJ → Int32 → Int32 → Int32 → Option (Int32 × Int32 × Int32 × tI × tJ)
  | 0, _, _, _, _, _ => none
  | k + 1, I, J, x1, x2, x3 =>
    bif xcmp .eq (x1 >>> (x3 &&& 31)) 0 then some (x1, x2, x3, I, J) else (match f258_185 I J x1 x3 with | (v2, I2, J2) => bif xcmp .eq v2 0 then f316_185_l4 N k I2 J2 x1 (x2 + 0) (x3 + 1) else (match f270_185 I2 J2 (((I2 186 5) + x3) + 1) with | (v4, I4, J4) => f316_185_l4 N k I4 J4 x1 (x2 + v4) (x3 + 1)))
set_option maxRecDepth 100000 in
theorem f316_185_l4_pq {sc : List Int32} {B : xM} {N : Nat} {P : Option Value → tI → tJ → Prop} (hB : kB pT B) : ∀ (k : Nat), k ≤ N → ∀ (b m : Nat), b ≤ k → b ≤ m → ∀ {I : tI} {J : tJ} {x1 : Int32} {x2 : Int32} {x3 : Int32} {Y : Option (Int32 × Int32 × Int32 × tI × tJ)}, f316_185_l4 N k I J x1 x2 x3 = Y → (∀ {y1 : Int32} {y2 : Int32} {y3 : Int32} {I1 : tI} {J1 : tJ}, Y = some (y1, y2, y3, I1, J1) → pq sc B m (xt_316, 4, 1) 46 [(0, .ref 185), (1, .int y1), (2, .int y2), (3, .int y3)] [] I1 J1 P) → pq sc B b (xt_316, 4, 1) 4 [(0, .ref 185), (1, .int x1), (2, .int x2), (3, .int x3)] [] I J P
  | 0, _, b, _, hb, _, _, _, _, _, _, _, _, _ => by
    have e : b = 0 := by omega
    subst e
    exact pq_zero
  | _ + 1, _, 0, _, _, _, _, _, _, _, _, _, _, _ => pq_zero
  | k + 1, hk, b + 1, m, hb, hm, I, J, x1, x2, x3, Y, hq, hx0 => by
    unfold f316_185_l4 at hq
    have hle : b ≤ N := by omega
    refine pq_s1 hB 2 (pc' := 7) (L' := [(0, .ref 185), (1, .int x1), (2, .int x2), (3, .int x3)]) (st' := [.int (x1 >>> (x3 &&& 31))]) (I' := I) (J' := J) (by with_unfolding_all rfl) ?_
    refine pq_ifn hB rfl (fun h1 => ?_) (fun h1 => ?_)
    · rw [h1, cond_true] at hq
      exact pq_le (by omega) (hx0 hq.symm)
    · rw [h1, cond_false] at hq
      refine pq_s hB 4 (pc' := 14) (L' := [(0, .ref 185), (1, .int x1), (2, .int x2), (3, .int x3)]) (st' := [.int x3, .int x1, .ref 185, .int x2]) (I' := I) (J' := J) (by with_unfolding_all rfl) ?_
      generalize hc2 : f258_185 I J x1 x3 = q2 at hq
      obtain ⟨v2, _, _⟩ := q2
      dsimp only at hq
      refine pq_1 rfl rfl rfl rfl (f258_185_pq hB hc2) ?_
      rintro _ I2 J2 ⟨rfl, rfl, rfl⟩
      refine pq_ifn hB rfl (fun h3 => ?_) (fun h3 => ?_)
      · rw [h3, cond_true] at hq
        refine pq_s hB 5 (pc' := 4) (L' := [(3, .int (x3 + 1)), (2, .int (x2 + 0)), (0, .ref 185), (1, .int x1)]) (st' := []) (I' := I2) (J' := J2) (by with_unfolding_all rfl) ?_
        refine pq_perm (L := [(0, .ref 185), (1, .int x1), (2, .int (x2 + 0)), (3, .int (x3 + 1))]) (leqn_of ⟨rfl, rfl, rfl, rfl, trivial⟩ ⟨rfl, rfl, rfl, rfl, trivial⟩ ⟨rfl, rfl, rfl, rfl, trivial⟩) ?_
        exact f316_185_l4_pq hB k (by omega) b m (by omega) (by omega) hq hx0
      · rw [h3, cond_false] at hq
        refine pq_s hB 9 (pc' := 31) (L' := [(0, .ref 185), (1, .int x1), (2, .int x2), (3, .int x3)]) (st' := [.int (((I2 186 5) + x3) + 1), .ref 185, .int x2]) (I' := I2) (J' := J2) (by with_unfolding_all rfl) ?_
        generalize hc4 : f270_185 I2 J2 (((I2 186 5) + x3) + 1) = q4 at hq
        obtain ⟨v4, _, _⟩ := q4
        dsimp only at hq
        refine pq_1 rfl rfl rfl rfl (f270_185_pq hB hc4) ?_
        rintro _ I4 J4 ⟨rfl, rfl, rfl⟩
        refine pq_s hB 5 (pc' := 4) (L' := [(3, .int (x3 + 1)), (2, .int (x2 + v4)), (0, .ref 185), (1, .int x1)]) (st' := []) (I' := I4) (J' := J4) (by with_unfolding_all rfl) ?_
        refine pq_perm (L := [(0, .ref 185), (1, .int x1), (2, .int (x2 + v4)), (3, .int (x3 + 1))]) (leqn_of ⟨rfl, rfl, rfl, rfl, trivial⟩ ⟨rfl, rfl, rfl, rfl, trivial⟩ ⟨rfl, rfl, rfl, rfl, trivial⟩) ?_
        exact f316_185_l4_pq hB k (by omega) b m (by omega) (by omega) hq hx0
-- LPModel.costOfSet
def f316_185 (N : Nat) (I : tI) (J : tJ) (a0 : Int32) : Option (Int32 × tI × tJ) :=
  (match f316_185_l4 N N I J a0 0 0 with | none => none | some (y1_1, y1_2, y1_3, I1, J1) => some (y1_2, I1, J1))
set_option maxRecDepth 100000 in
theorem f316_185_pq {sc : List Int32} {B : xM} {N : Nat} {I : tI} {J : tJ} {a0 : Int32} (hB : kB pT B) : ∀ {X : Option (Int32 × tI × tJ)}, f316_185 N I J a0 = X → pq sc B N (xt_316, 4, 1) 0 [(0, .ref 185), (1, .int a0)] [] I J (fun v I1 J1 => ∃ a, v = some (.int a) ∧ X = some (a, I1, J1)) := by
  intro X hq
  unfold f316_185 at hq
  have hle : N ≤ N := Nat.le_refl N
  refine pq_s hB 4 (pc' := 4) (L' := [(3, .int 0), (2, .int 0), (0, .ref 185), (1, .int a0)]) (st' := []) (I' := I) (J' := J) (by with_unfolding_all rfl) ?_
  refine pq_perm (L := [(0, .ref 185), (1, .int a0), (2, .int 0), (3, .int 0)]) (leqn_of ⟨rfl, rfl, rfl, rfl, trivial⟩ ⟨rfl, rfl, rfl, rfl, trivial⟩ ⟨rfl, rfl, rfl, rfl, trivial⟩) ?_
  refine f316_185_l4_pq hB N (Nat.le_refl N) N N hle (Nat.le_refl N) rfl ?_
  intro y1_1 y1_2 y1_3 I1 J1 hc1
  rw [hc1] at hq
  dsimp only at hq
  refine pq_s hB 1 (pc' := 47) (L' := [(0, .ref 185), (1, .int y1_1), (2, .int y1_2), (3, .int y1_3)]) (st' := [.int y1_2]) (I' := I1) (J' := J1) (by with_unfolding_all rfl) ?_
  subst hq
  exact pq_2i (x := y1_2) rfl ⟨_, rfl, rfl⟩
-- LPModel.bits, the loop at 4, to [20]
def f259_l4 (N : Nat) : Nat → tI → tJ → Int32 → Int32 → Option (Int32 × Int32 × tI × tJ)
  | 0, _, _, _, _ => none
  | k + 1, I, J, x1, x2 =>
    bif xcmp .eq x2 0 then some (x1, x2, I, J) else f259_l4 N k I J (x1 + 1) (x2 &&& (x2 - 1))
set_option maxRecDepth 100000 in
theorem f259_l4_pq {sc : List Int32} {B : xM} {N : Nat} {P : Option Value → tI → tJ → Prop} (hB : kB pT B) : ∀ (k : Nat), k ≤ N → ∀ (b m : Nat), b ≤ k → b ≤ m → ∀ {I : tI} {J : tJ} {x1 : Int32} {x2 : Int32} {Y : Option (Int32 × Int32 × tI × tJ)}, f259_l4 N k I J x1 x2 = Y → (∀ {y1 : Int32} {y2 : Int32} {I1 : tI} {J1 : tJ}, Y = some (y1, y2, I1, J1) → pq sc B m (xt_259, 3, 1) 20 [(1, .int y1), (2, .int y2)] [] I1 J1 P) → pq sc B b (xt_259, 3, 1) 4 [(1, .int x1), (2, .int x2)] [] I J P
  | 0, _, b, _, hb, _, _, _, _, _, _, _, _ => by
    have e : b = 0 := by omega
    subst e
    exact pq_zero
  | _ + 1, _, 0, _, _, _, _, _, _, _, _, _, _ => pq_zero
  | k + 1, hk, b + 1, m, hb, hm, I, J, x1, x2, Y, hq, hx0 => by
    unfold f259_l4 at hq
    have hle : b ≤ N := by omega
    refine pq_s1 hB 0 (pc' := 5) (L' := [(1, .int x1), (2, .int x2)]) (st' := [.int x2]) (I' := I) (J' := J) (by with_unfolding_all rfl) ?_
    refine pq_ifn hB rfl (fun h1 => ?_) (fun h1 => ?_)
    · rw [h1, cond_true] at hq
      exact pq_le (by omega) (hx0 hq.symm)
    · rw [h1, cond_false] at hq
      refine pq_s hB 8 (pc' := 4) (L' := [(2, .int (x2 &&& (x2 - 1))), (1, .int (x1 + 1))]) (st' := []) (I' := I) (J' := J) (by with_unfolding_all rfl) ?_
      refine pq_perm (L := [(1, .int (x1 + 1)), (2, .int (x2 &&& (x2 - 1)))]) (leqn_of ⟨rfl, rfl, trivial⟩ ⟨rfl, rfl, trivial⟩ ⟨rfl, rfl, trivial⟩) ?_
      exact f259_l4_pq hB k (by omega) b m (by omega) (by omega) hq hx0
-- LPModel.bits
def f259 (N : Nat) (I : tI) (J : tJ) (a0 : Int32) : Option (Int32 × tI × tJ) :=
  (match f259_l4 N N I J 0 a0 with | none => none | some (y1_1, y1_2, I1, J1) => some (y1_1, I1, J1))
set_option maxRecDepth 100000 in
theorem f259_pq {sc : List Int32} {B : xM} {N : Nat} {I : tI} {J : tJ} {a0 : Int32} (hB : kB pT B) : ∀ {X : Option (Int32 × tI × tJ)}, f259 N I J a0 = X → pq sc B N (xt_259, 3, 1) 0 [(0, .int a0)] [] I J (fun v I1 J1 => ∃ a, v = some (.int a) ∧ X = some (a, I1, J1)) := by
  intro X hq
  unfold f259 at hq
  have hle : N ≤ N := Nat.le_refl N
  refine pq_s hB 4 (pc' := 4) (L' := [(2, .int a0), (1, .int 0), (0, .int a0)]) (st' := []) (I' := I) (J' := J) (by with_unfolding_all rfl) ?_
  refine pq_perm (L := [(1, .int 0), (2, .int a0)]) (leqn_of ⟨rfl, rfl, trivial⟩ ⟨rfl, rfl, trivial⟩ ⟨rfl, rfl, rfl, trivial⟩) ?_
  refine f259_l4_pq hB N (Nat.le_refl N) N N hle (Nat.le_refl N) rfl ?_
  intro y1_1 y1_2 I1 J1 hc1
  rw [hc1] at hq
  dsimp only at hq
  refine pq_s hB 1 (pc' := 21) (L' := [(1, .int y1_1), (2, .int y1_2)]) (st' := [.int y1_1]) (I' := I1) (J' := J1) (by with_unfolding_all rfl) ?_
  subst hq
  exact pq_2i (x := y1_1) rfl ⟨_, rfl, rfl⟩
-- LPModel.covering, the loop at 10, to [141]
def f317_185_l10 (N : Nat) : Nat → tI → tJ → Int32 → Int32 → Int32 → Int32 → Option (Int32 × Int32 × Int32 × Int32 × tI × tJ)
  | 0, _, _, _, _, _, _ => none
  | k + 1, I, J, x1, x2, x3, x4 =>
    bif xcmp .ge x4 (1 <<< (x2 &&& 31)) then some (x1, x2, x3, x4, I, J) else (match f317_185_l24 N N I J x1 x2 x3 x4 0 0 with | none => none | some (y3_1, y3_2, y3_3, y3_4, y3_5, y3_6, I3, J3) => bif xcmp .eq (y3_1 &&& (y3_5 ^^^ (-1))) 0 then (bif xcmp .ne y3_3 (-1) then (match f316_185 N I3 J3 y3_4 with | none => none | some (v6, I6, J6) => (match f316_185 N I6 J6 y3_3 with | none => none | some (v7, I7, J7) => bif xcmp .eq v6 v7 then (match f259 N I7 J7 y3_4 with | none => none | some (v9, I9, J9) => (match f259 N I9 J9 y3_3 with | none => none | some (v10, I10, J10) => bif xcmp .ge (v9 - v10) 0 then f317_185_l10 N k I10 J10 y3_1 y3_2 y3_3 (y3_4 + 1) else f317_185_l10 N k I10 J10 y3_1 y3_2 y3_4 (y3_4 + 1))) else (match f316_185 N I7 J7 y3_4 with | none => none | some (v12, I12, J12) => (match f316_185 N I12 J12 y3_3 with | none => none | some (v13, I13, J13) => bif xcmp .ge (v12 - v13) 0 then f317_185_l10 N k I13 J13 y3_1 y3_2 y3_3 (y3_4 + 1) else f317_185_l10 N k I13 J13 y3_1 y3_2 y3_4 (y3_4 + 1))))) else bif xcmp .ge (-1) 0 then f317_185_l10 N k I3 J3 y3_1 y3_2 y3_3 (y3_4 + 1) else f317_185_l10 N k I3 J3 y3_1 y3_2 y3_4 (y3_4 + 1)) else f317_185_l10 N k I3 J3 y3_1 y3_2 y3_3 (y3_4 + 1))
set_option maxRecDepth 100000 in
theorem f317_185_l10_pq {sc : List Int32} {B : xM} {N : Nat} {P : Option Value → tI → tJ → Prop} (hB : kB pT B) : ∀ (k : Nat), k ≤ N → ∀ (b m : Nat), b ≤ k → b ≤ m → ∀ {I : tI} {J : tJ} {x1 : Int32} {x2 : Int32} {x3 : Int32} {x4 : Int32} {Y : Option (Int32 × Int32 × Int32 × Int32 × tI × tJ)}, f317_185_l10 N k I J x1 x2 x3 x4 = Y → (∀ {y1 : Int32} {y2 : Int32} {y3 : Int32} {y4 : Int32} {I1 : tI} {J1 : tJ}, Y = some (y1, y2, y3, y4, I1, J1) → pq sc B m (xt_317, 7, 1) 141 [(0, .ref 185), (1, .int y1), (2, .int y2), (3, .int y3), (4, .int y4)] [] I1 J1 P) → pq sc B b (xt_317, 7, 1) 10 [(0, .ref 185), (1, .int x1), (2, .int x2), (3, .int x3), (4, .int x4)] [] I J P
  | 0, _, b, _, hb, _, _, _, _, _, _, _, _, _, _ => by
    have e : b = 0 := by omega
    subst e
    exact pq_zero
  | _ + 1, _, 0, _, _, _, _, _, _, _, _, _, _, _, _ => pq_zero
  | k + 1, hk, b + 1, m, hb, hm, I, J, x1, x2, x3, x4, Y, hq, hx0 => by
    unfold f317_185_l10 at hq
    have hle : b ≤ N := by omega
    refine pq_s1 hB 3 (pc' := 15) (L' := [(0, .ref 185), (1, .int x1), (2, .int x2), (3, .int x3), (4, .int x4)]) (st' := [.int (1 <<< (x2 &&& 31)), .int x4]) (I' := I) (J' := J) (by with_unfolding_all rfl) ?_
    refine pq_icn hB rfl (fun h2 => ?_) (fun h2 => ?_)
    · rw [h2, cond_true] at hq
      exact pq_le (by omega) (hx0 hq.symm)
    · rw [h2, cond_false] at hq
      refine pq_s hB 4 (pc' := 24) (L' := [(6, .int 0), (5, .int 0), (0, .ref 185), (1, .int x1), (2, .int x2), (3, .int x3), (4, .int x4)]) (st' := []) (I' := I) (J' := J) (by with_unfolding_all rfl) ?_
      refine pq_perm (L := [(0, .ref 185), (1, .int x1), (2, .int x2), (3, .int x3), (4, .int x4), (5, .int 0), (6, .int 0)]) (leqn_of ⟨rfl, rfl, rfl, rfl, rfl, rfl, rfl, trivial⟩ ⟨rfl, rfl, rfl, rfl, rfl, rfl, rfl, trivial⟩ ⟨rfl, rfl, rfl, rfl, rfl, rfl, rfl, trivial⟩) ?_
      refine f317_185_l24_pq hB N (Nat.le_refl N) b b hle (Nat.le_refl b) rfl ?_
      intro y3_1 y3_2 y3_3 y3_4 y3_5 y3_6 I3 J3 hc3
      rw [hc3] at hq
      dsimp only at hq
      refine pq_s hB 5 (pc' := 71) (L' := [(0, .ref 185), (1, .int y3_1), (2, .int y3_2), (3, .int y3_3), (4, .int y3_4), (5, .int y3_5), (6, .int y3_6)]) (st' := [.int (y3_1 &&& (y3_5 ^^^ (-1)))]) (I' := I3) (J' := J3) (by with_unfolding_all rfl) ?_
      refine pq_ifn hB rfl (fun h4 => ?_) (fun h4 => ?_)
      · rw [h4, cond_true] at hq
        refine pq_s hB 2 (pc' := 79) (L' := [(0, .ref 185), (1, .int y3_1), (2, .int y3_2), (3, .int y3_3), (4, .int y3_4), (5, .int y3_5), (6, .int y3_6)]) (st' := [.int (-1), .int y3_3]) (I' := I3) (J' := J3) (by with_unfolding_all rfl) ?_
        refine pq_icn hB rfl (fun h5 => ?_) (fun h5 => ?_)
        · rw [h5, cond_true] at hq
          refine pq_s hB 2 (pc' := 89) (L' := [(0, .ref 185), (1, .int y3_1), (2, .int y3_2), (3, .int y3_3), (4, .int y3_4), (5, .int y3_5), (6, .int y3_6)]) (st' := [.int y3_4, .ref 185]) (I' := I3) (J' := J3) (by with_unfolding_all rfl) ?_
          refine pq_1 rfl rfl rfl rfl (pq_le hle (f316_185_pq hB rfl)) ?_
          rintro _ I6 J6 ⟨v6, rfl, hc6⟩
          rw [hc6] at hq
          dsimp only at hq
          refine pq_s hB 2 (pc' := 94) (L' := [(0, .ref 185), (1, .int y3_1), (2, .int y3_2), (3, .int y3_3), (4, .int y3_4), (5, .int y3_5), (6, .int y3_6)]) (st' := [.int y3_3, .ref 185, .int v6]) (I' := I6) (J' := J6) (by with_unfolding_all rfl) ?_
          refine pq_1 rfl rfl rfl rfl (pq_le hle (f316_185_pq hB rfl)) ?_
          rintro _ I7 J7 ⟨v7, rfl, hc7⟩
          rw [hc7] at hq
          dsimp only at hq
          refine pq_icn hB rfl (fun h8 => ?_) (fun h8 => ?_)
          · rw [h8, cond_true] at hq
            refine pq_s hB 1 (pc' := 117) (L' := [(0, .ref 185), (1, .int y3_1), (2, .int y3_2), (3, .int y3_3), (4, .int y3_4), (5, .int y3_5), (6, .int y3_6)]) (st' := [.int y3_4]) (I' := I7) (J' := J7) (by with_unfolding_all rfl) ?_
            refine pq_1 rfl rfl rfl rfl (pq_le hle (f259_pq hB rfl)) ?_
            rintro _ I9 J9 ⟨v9, rfl, hc9⟩
            rw [hc9] at hq
            dsimp only at hq
            refine pq_s hB 1 (pc' := 121) (L' := [(0, .ref 185), (1, .int y3_1), (2, .int y3_2), (3, .int y3_3), (4, .int y3_4), (5, .int y3_5), (6, .int y3_6)]) (st' := [.int y3_3, .int v9]) (I' := I9) (J' := J9) (by with_unfolding_all rfl) ?_
            refine pq_1 rfl rfl rfl rfl (pq_le hle (f259_pq hB rfl)) ?_
            rintro _ I10 J10 ⟨v10, rfl, hc10⟩
            rw [hc10] at hq
            dsimp only at hq
            refine pq_s hB 3 (pc' := 129) (L' := [(6, .int (v9 - v10)), (0, .ref 185), (1, .int y3_1), (2, .int y3_2), (3, .int y3_3), (4, .int y3_4), (5, .int y3_5)]) (st' := [.int (v9 - v10)]) (I' := I10) (J' := J10) (by with_unfolding_all rfl) ?_
            refine pq_ifn hB rfl (fun h11 => ?_) (fun h11 => ?_)
            · rw [h11, cond_true] at hq
              refine pq_s hB 2 (pc' := 10) (L' := [(4, .int (y3_4 + 1)), (6, .int (v9 - v10)), (0, .ref 185), (1, .int y3_1), (2, .int y3_2), (3, .int y3_3), (5, .int y3_5)]) (st' := []) (I' := I10) (J' := J10) (by with_unfolding_all rfl) ?_
              refine pq_perm (L := [(0, .ref 185), (1, .int y3_1), (2, .int y3_2), (3, .int y3_3), (4, .int (y3_4 + 1))]) (leqn_of ⟨rfl, rfl, rfl, rfl, rfl, trivial⟩ ⟨rfl, rfl, rfl, rfl, rfl, trivial⟩ ⟨rfl, rfl, rfl, rfl, rfl, rfl, rfl, trivial⟩) ?_
              exact f317_185_l10_pq hB k (by omega) b m (by omega) (by omega) hq hx0
            · rw [h11, cond_false] at hq
              refine pq_s hB 4 (pc' := 10) (L' := [(4, .int (y3_4 + 1)), (3, .int y3_4), (6, .int (v9 - v10)), (0, .ref 185), (1, .int y3_1), (2, .int y3_2), (5, .int y3_5)]) (st' := []) (I' := I10) (J' := J10) (by with_unfolding_all rfl) ?_
              refine pq_perm (L := [(0, .ref 185), (1, .int y3_1), (2, .int y3_2), (3, .int y3_4), (4, .int (y3_4 + 1))]) (leqn_of ⟨rfl, rfl, rfl, rfl, rfl, trivial⟩ ⟨rfl, rfl, rfl, rfl, rfl, trivial⟩ ⟨rfl, rfl, rfl, rfl, rfl, rfl, rfl, trivial⟩) ?_
              exact f317_185_l10_pq hB k (by omega) b m (by omega) (by omega) hq hx0
          · rw [h8, cond_false] at hq
            refine pq_s hB 2 (pc' := 103) (L' := [(0, .ref 185), (1, .int y3_1), (2, .int y3_2), (3, .int y3_3), (4, .int y3_4), (5, .int y3_5), (6, .int y3_6)]) (st' := [.int y3_4, .ref 185]) (I' := I7) (J' := J7) (by with_unfolding_all rfl) ?_
            refine pq_1 rfl rfl rfl rfl (pq_le hle (f316_185_pq hB rfl)) ?_
            rintro _ I12 J12 ⟨v12, rfl, hc12⟩
            rw [hc12] at hq
            dsimp only at hq
            refine pq_s hB 2 (pc' := 108) (L' := [(0, .ref 185), (1, .int y3_1), (2, .int y3_2), (3, .int y3_3), (4, .int y3_4), (5, .int y3_5), (6, .int y3_6)]) (st' := [.int y3_3, .ref 185, .int v12]) (I' := I12) (J' := J12) (by with_unfolding_all rfl) ?_
            refine pq_1 rfl rfl rfl rfl (pq_le hle (f316_185_pq hB rfl)) ?_
            rintro _ I13 J13 ⟨v13, rfl, hc13⟩
            rw [hc13] at hq
            dsimp only at hq
            refine pq_s hB 4 (pc' := 129) (L' := [(6, .int (v12 - v13)), (0, .ref 185), (1, .int y3_1), (2, .int y3_2), (3, .int y3_3), (4, .int y3_4), (5, .int y3_5)]) (st' := [.int (v12 - v13)]) (I' := I13) (J' := J13) (by with_unfolding_all rfl) ?_
            refine pq_ifn hB rfl (fun h14 => ?_) (fun h14 => ?_)
            · rw [h14, cond_true] at hq
              refine pq_s hB 2 (pc' := 10) (L' := [(4, .int (y3_4 + 1)), (6, .int (v12 - v13)), (0, .ref 185), (1, .int y3_1), (2, .int y3_2), (3, .int y3_3), (5, .int y3_5)]) (st' := []) (I' := I13) (J' := J13) (by with_unfolding_all rfl) ?_
              refine pq_perm (L := [(0, .ref 185), (1, .int y3_1), (2, .int y3_2), (3, .int y3_3), (4, .int (y3_4 + 1))]) (leqn_of ⟨rfl, rfl, rfl, rfl, rfl, trivial⟩ ⟨rfl, rfl, rfl, rfl, rfl, trivial⟩ ⟨rfl, rfl, rfl, rfl, rfl, rfl, rfl, trivial⟩) ?_
              exact f317_185_l10_pq hB k (by omega) b m (by omega) (by omega) hq hx0
            · rw [h14, cond_false] at hq
              refine pq_s hB 4 (pc' := 10) (L' := [(4, .int (y3_4 + 1)), (3, .int y3_4), (6, .int (v12 - v13)), (0, .ref 185), (1, .int y3_1), (2, .int y3_2), (5, .int y3_5)]) (st' := []) (I' := I13) (J' := J13) (by with_unfolding_all rfl) ?_
              refine pq_perm (L := [(0, .ref 185), (1, .int y3_1), (2, .int y3_2), (3, .int y3_4), (4, .int (y3_4 + 1))]) (leqn_of ⟨rfl, rfl, rfl, rfl, rfl, trivial⟩ ⟨rfl, rfl, rfl, rfl, rfl, trivial⟩ ⟨rfl, rfl, rfl, rfl, rfl, rfl, rfl, trivial⟩) ?_
              exact f317_185_l10_pq hB k (by omega) b m (by omega) (by omega) hq hx0
        · rw [h5, cond_false] at hq
          refine pq_s hB 4 (pc' := 129) (L' := [(6, .int (-1)), (0, .ref 185), (1, .int y3_1), (2, .int y3_2), (3, .int y3_3), (4, .int y3_4), (5, .int y3_5)]) (st' := [.int (-1)]) (I' := I3) (J' := J3) (by with_unfolding_all rfl) ?_
          refine pq_ifn hB rfl (fun h15 => ?_) (fun h15 => ?_)
          · rw [h15, cond_true] at hq
            refine pq_s hB 2 (pc' := 10) (L' := [(4, .int (y3_4 + 1)), (6, .int (-1)), (0, .ref 185), (1, .int y3_1), (2, .int y3_2), (3, .int y3_3), (5, .int y3_5)]) (st' := []) (I' := I3) (J' := J3) (by with_unfolding_all rfl) ?_
            refine pq_perm (L := [(0, .ref 185), (1, .int y3_1), (2, .int y3_2), (3, .int y3_3), (4, .int (y3_4 + 1))]) (leqn_of ⟨rfl, rfl, rfl, rfl, rfl, trivial⟩ ⟨rfl, rfl, rfl, rfl, rfl, trivial⟩ ⟨rfl, rfl, rfl, rfl, rfl, rfl, rfl, trivial⟩) ?_
            exact f317_185_l10_pq hB k (by omega) b m (by omega) (by omega) hq hx0
          · rw [h15, cond_false] at hq
            refine pq_s hB 4 (pc' := 10) (L' := [(4, .int (y3_4 + 1)), (3, .int y3_4), (6, .int (-1)), (0, .ref 185), (1, .int y3_1), (2, .int y3_2), (5, .int y3_5)]) (st' := []) (I' := I3) (J' := J3) (by with_unfolding_all rfl) ?_
            refine pq_perm (L := [(0, .ref 185), (1, .int y3_1), (2, .int y3_2), (3, .int y3_4), (4, .int (y3_4 + 1))]) (leqn_of ⟨rfl, rfl, rfl, rfl, rfl, trivial⟩ ⟨rfl, rfl, rfl, rfl, rfl, trivial⟩ ⟨rfl, rfl, rfl, rfl, rfl, rfl, rfl, trivial⟩) ?_
            exact f317_185_l10_pq hB k (by omega) b m (by omega) (by omega) hq hx0
      · rw [h4, cond_false] at hq
        refine pq_s hB 3 (pc' := 10) (L' := [(4, .int (y3_4 + 1)), (0, .ref 185), (1, .int y3_1), (2, .int y3_2), (3, .int y3_3), (5, .int y3_5), (6, .int y3_6)]) (st' := []) (I' := I3) (J' := J3) (by with_unfolding_all rfl) ?_
        refine pq_perm (L := [(0, .ref 185), (1, .int y3_1), (2, .int y3_2), (3, .int y3_3), (4, .int (y3_4 + 1))]) (leqn_of ⟨rfl, rfl, rfl, rfl, rfl, trivial⟩ ⟨rfl, rfl, rfl, rfl, rfl, trivial⟩ ⟨rfl, rfl, rfl, rfl, rfl, rfl, rfl, trivial⟩) ?_
        exact f317_185_l10_pq hB k (by omega) b m (by omega) (by omega) hq hx0
-- LPModel.covering
def f317_185 (N : Nat) (I : tI) (J : tJ) (a0 : Int32) (a1 : Int32) : Option (Int32 × tI × tJ) :=
  (match f305_185 N I J a1 with | none => none | some (_, I1, J1) => (match f317_185_l10 N N I1 J1 a0 a1 (-1) 0 with | none => none | some (y2_1, y2_2, y2_3, y2_4, I2, J2) => some (y2_3, I2, J2)))
set_option maxRecDepth 100000 in
theorem f317_185_pq {sc : List Int32} {B : xM} {N : Nat} {I : tI} {J : tJ} {a0 : Int32} {a1 : Int32} (hB : kB pT B) : ∀ {X : Option (Int32 × tI × tJ)}, f317_185 N I J a0 a1 = X → pq sc B N (xt_317, 7, 1) 0 [(0, .ref 185), (1, .int a0), (2, .int a1)] [] I J (fun v I1 J1 => ∃ a, v = some (.int a) ∧ X = some (a, I1, J1)) := by
  intro X hq
  unfold f317_185 at hq
  have hle : N ≤ N := Nat.le_refl N
  refine pq_s hB 2 (pc' := 2) (L' := [(0, .ref 185), (1, .int a0), (2, .int a1)]) (st' := [.int a1, .ref 185]) (I' := I) (J' := J) (by with_unfolding_all rfl) ?_
  refine pq_1 rfl rfl rfl rfl (pq_le hle (f305_185_pq hB rfl)) ?_
  rintro _ I1 J1 ⟨rfl, hc1⟩
  rw [hc1] at hq
  dsimp only at hq
  refine pq_s hB 4 (pc' := 10) (L' := [(4, .int 0), (3, .int (-1)), (0, .ref 185), (1, .int a0), (2, .int a1)]) (st' := []) (I' := I1) (J' := J1) (by with_unfolding_all rfl) ?_
  refine pq_perm (L := [(0, .ref 185), (1, .int a0), (2, .int a1), (3, .int (-1)), (4, .int 0)]) (leqn_of ⟨rfl, rfl, rfl, rfl, rfl, trivial⟩ ⟨rfl, rfl, rfl, rfl, rfl, trivial⟩ ⟨rfl, rfl, rfl, rfl, rfl, trivial⟩) ?_
  refine f317_185_l10_pq hB N (Nat.le_refl N) N N hle (Nat.le_refl N) rfl ?_
  intro y2_1 y2_2 y2_3 y2_4 I2 J2 hc2
  rw [hc2] at hq
  dsimp only at hq
  refine pq_s hB 1 (pc' := 142) (L' := [(0, .ref 185), (1, .int y2_1), (2, .int y2_2), (3, .int y2_3), (4, .int y2_4)]) (st' := [.int y2_3]) (I' := I2) (J' := J2) (by with_unfolding_all rfl) ?_
  subst hq
  exact pq_2i (x := y2_3) rfl ⟨_, rfl, rfl⟩
-- LPModel.cover
def f318_185 (N : Nat) (I : tI) (J : tJ) (a0 : Int32) (a1 : Int32) : Option (Int32 × tI × tJ) :=
  (match f315_185 I J a0 a1 with | (v1, I1, J1) => bif xcmp .ne v1 0 then (match f317_185 N I1 J1 a0 a1 with | none => none | some (v3, I3, J3) => bif xcmp .ne v3 (-1) then (match f316_185 N I3 J3 v3 with | none => none | some (v5, I5, J5) => (match f206_185 I5 J5 v5 with | (v6, I6, J6) => some (v6, I6, J6))) else (match f205_185 I3 J3 6 with | (v7, I7, J7) => some (v7, I7, J7))) else (match f205_185 I1 J1 1 with | (v8, I8, J8) => some (v8, I8, J8)))
set_option maxRecDepth 100000 in
theorem f318_185_pq {sc : List Int32} {B : xM} {N : Nat} {I : tI} {J : tJ} {a0 : Int32} {a1 : Int32} (hB : kB pT B) : ∀ {X : Option (Int32 × tI × tJ)}, f318_185 N I J a0 a1 = X → pq sc B N (xt_318, 4, 1) 0 [(0, .ref 185), (1, .int a0), (2, .int a1)] [] I J (fun v I1 J1 => ∃ a, v = some (.int a) ∧ X = some (a, I1, J1)) := by
  intro X hq
  unfold f318_185 at hq
  have hle : N ≤ N := Nat.le_refl N
  refine pq_s hB 3 (pc' := 3) (L' := [(0, .ref 185), (1, .int a0), (2, .int a1)]) (st' := [.int a1, .int a0, .ref 185]) (I' := I) (J' := J) (by with_unfolding_all rfl) ?_
  generalize hc1 : f315_185 I J a0 a1 = q1 at hq
  obtain ⟨v1, _, _⟩ := q1
  dsimp only at hq
  refine pq_1 rfl rfl rfl rfl (f315_185_pq hB hc1) ?_
  rintro _ I1 J1 ⟨rfl, rfl, rfl⟩
  refine pq_ifn hB rfl (fun h2 => ?_) (fun h2 => ?_)
  · rw [h2, cond_true] at hq
    refine pq_s hB 3 (pc' := 18) (L' := [(0, .ref 185), (1, .int a0), (2, .int a1)]) (st' := [.int a1, .int a0, .ref 185]) (I' := I1) (J' := J1) (by with_unfolding_all rfl) ?_
    refine pq_1 rfl rfl rfl rfl (pq_le hle (f317_185_pq hB rfl)) ?_
    rintro _ I3 J3 ⟨v3, rfl, hc3⟩
    rw [hc3] at hq
    dsimp only at hq
    refine pq_s hB 3 (pc' := 24) (L' := [(3, .int v3), (0, .ref 185), (1, .int a0), (2, .int a1)]) (st' := [.int (-1), .int v3]) (I' := I3) (J' := J3) (by with_unfolding_all rfl) ?_
    refine pq_icn hB rfl (fun h4 => ?_) (fun h4 => ?_)
    · rw [h4, cond_true] at hq
      refine pq_s hB 3 (pc' := 39) (L' := [(3, .int v3), (0, .ref 185), (1, .int a0), (2, .int a1)]) (st' := [.int v3, .ref 185, .ref 185]) (I' := I3) (J' := J3) (by with_unfolding_all rfl) ?_
      refine pq_1 rfl rfl rfl rfl (pq_le hle (f316_185_pq hB rfl)) ?_
      rintro _ I5 J5 ⟨v5, rfl, hc5⟩
      rw [hc5] at hq
      dsimp only at hq
      generalize hc6 : f206_185 I5 J5 v5 = q6 at hq
      obtain ⟨v6, _, _⟩ := q6
      dsimp only at hq
      refine pq_1 rfl rfl rfl rfl (f206_185_pq hB hc6) ?_
      rintro _ I6 J6 ⟨rfl, rfl, rfl⟩
      subst hq
      exact pq_2i (x := v6) rfl ⟨_, rfl, rfl⟩
    · rw [h4, cond_false] at hq
      refine pq_s hB 2 (pc' := 30) (L' := [(3, .int v3), (0, .ref 185), (1, .int a0), (2, .int a1)]) (st' := [.int 6, .ref 185]) (I' := I3) (J' := J3) (by with_unfolding_all rfl) ?_
      generalize hc7 : f205_185 I3 J3 6 = q7 at hq
      obtain ⟨v7, _, _⟩ := q7
      dsimp only at hq
      refine pq_1 rfl rfl rfl rfl (f205_185_pq hB hc7) ?_
      rintro _ I7 J7 ⟨rfl, rfl, rfl⟩
      refine pq_s hB 1 (pc' := 45) (L' := [(3, .int v3), (0, .ref 185), (1, .int a0), (2, .int a1)]) (st' := [.int v7]) (I' := I7) (J' := J7) (by with_unfolding_all rfl) ?_
      subst hq
      exact pq_2i (x := v7) rfl ⟨_, rfl, rfl⟩
  · rw [h2, cond_false] at hq
    refine pq_s hB 2 (pc' := 11) (L' := [(0, .ref 185), (1, .int a0), (2, .int a1)]) (st' := [.int 1, .ref 185]) (I' := I1) (J' := J1) (by with_unfolding_all rfl) ?_
    generalize hc8 : f205_185 I1 J1 1 = q8 at hq
    obtain ⟨v8, _, _⟩ := q8
    dsimp only at hq
    refine pq_1 rfl rfl rfl rfl (f205_185_pq hB hc8) ?_
    rintro _ I8 J8 ⟨rfl, rfl, rfl⟩
    subst hq
    exact pq_2i (x := v8) rfl ⟨_, rfl, rfl⟩
-- LPModel.coverSet
def f319_185 (N : Nat) (I : tI) (J : tJ) (a0 : Int32) (a1 : Int32) : Option (Int32 × tI × tJ) :=
  (match f315_185 I J a0 a1 with | (v1, I1, J1) => bif xcmp .eq v1 0 then (match f205_185 I1 J1 1 with | (v3, I3, J3) => some (v3, I3, J3)) else (match f317_185 N I1 J1 a0 a1 with | none => none | some (v4, I4, J4) => (match f207_185 I4 J4 v4 with | (v5, I5, J5) => some (v5, I5, J5))))
set_option maxRecDepth 100000 in
theorem f319_185_pq {sc : List Int32} {B : xM} {N : Nat} {I : tI} {J : tJ} {a0 : Int32} {a1 : Int32} (hB : kB pT B) : ∀ {X : Option (Int32 × tI × tJ)}, f319_185 N I J a0 a1 = X → pq sc B N (xt_319, 3, 1) 0 [(0, .ref 185), (1, .int a0), (2, .int a1)] [] I J (fun v I1 J1 => ∃ a, v = some (.int a) ∧ X = some (a, I1, J1)) := by
  intro X hq
  unfold f319_185 at hq
  have hle : N ≤ N := Nat.le_refl N
  refine pq_s hB 3 (pc' := 3) (L' := [(0, .ref 185), (1, .int a0), (2, .int a1)]) (st' := [.int a1, .int a0, .ref 185]) (I' := I) (J' := J) (by with_unfolding_all rfl) ?_
  generalize hc1 : f315_185 I J a0 a1 = q1 at hq
  obtain ⟨v1, _, _⟩ := q1
  dsimp only at hq
  refine pq_1 rfl rfl rfl rfl (f315_185_pq hB hc1) ?_
  rintro _ I1 J1 ⟨rfl, rfl, rfl⟩
  refine pq_ifn hB rfl (fun h2 => ?_) (fun h2 => ?_)
  · rw [h2, cond_true] at hq
    refine pq_s hB 2 (pc' := 24) (L' := [(0, .ref 185), (1, .int a0), (2, .int a1)]) (st' := [.int 1, .ref 185]) (I' := I1) (J' := J1) (by with_unfolding_all rfl) ?_
    generalize hc3 : f205_185 I1 J1 1 = q3 at hq
    obtain ⟨v3, _, _⟩ := q3
    dsimp only at hq
    refine pq_1 rfl rfl rfl rfl (f205_185_pq hB hc3) ?_
    rintro _ I3 J3 ⟨rfl, rfl, rfl⟩
    subst hq
    exact pq_2i (x := v3) rfl ⟨_, rfl, rfl⟩
  · rw [h2, cond_false] at hq
    refine pq_s hB 4 (pc' := 13) (L' := [(0, .ref 185), (1, .int a0), (2, .int a1)]) (st' := [.int a1, .int a0, .ref 185, .ref 185]) (I' := I1) (J' := J1) (by with_unfolding_all rfl) ?_
    refine pq_1 rfl rfl rfl rfl (pq_le hle (f317_185_pq hB rfl)) ?_
    rintro _ I4 J4 ⟨v4, rfl, hc4⟩
    rw [hc4] at hq
    dsimp only at hq
    generalize hc5 : f207_185 I4 J4 v4 = q5 at hq
    obtain ⟨v5, _, _⟩ := q5
    dsimp only at hq
    refine pq_1 rfl rfl rfl rfl (f207_185_pq hB hc5) ?_
    rintro _ I5 J5 ⟨rfl, rfl, rfl⟩
    refine pq_s hB 1 (pc' := 27) (L' := [(0, .ref 185), (1, .int a0), (2, .int a1)]) (st' := [.int v5]) (I' := I5) (J' := J5) (by with_unfolding_all rfl) ?_
    subst hq
    exact pq_2i (x := v5) rfl ⟨_, rfl, rfl⟩
-- LPModel.share, the loop at 39, to [61]
def f320_185_l39 (N : Nat) : Nat → tI → tJ → Int32 → Int32 → Int32 → Option (Int32 × Int32 × Int32 × tI × tJ)
  | 0, _, _, _, _, _ => none
  | k + 1, I, J, x1, x3, x4 =>
    bif xcmp .gt x4 x1 then some (x1, x3, x4, I, J) else f320_185_l39 N k I J x1 (x3 ||| (I 194 (x4).toNatClampNeg)) (x4 + 2)
set_option maxRecDepth 100000 in
theorem f320_185_l39_pq {sc : List Int32} {B : xM} {N : Nat} {P : Option Value → tI → tJ → Prop} (hB : kB pT B) : ∀ (k : Nat), k ≤ N → ∀ (b m : Nat), b ≤ k → b ≤ m → ∀ {I : tI} {J : tJ} {x1 : Int32} {x3 : Int32} {x4 : Int32} {Y : Option (Int32 × Int32 × Int32 × tI × tJ)}, f320_185_l39 N k I J x1 x3 x4 = Y → (∀ {y1 : Int32} {y3 : Int32} {y4 : Int32} {I1 : tI} {J1 : tJ}, Y = some (y1, y3, y4, I1, J1) → pq sc B m (xt_320, 5, 1) 61 [(0, .ref 185), (1, .int y1), (3, .int y3), (4, .int y4)] [] I1 J1 P) → pq sc B b (xt_320, 5, 1) 39 [(0, .ref 185), (1, .int x1), (3, .int x3), (4, .int x4)] [] I J P
  | 0, _, b, _, hb, _, _, _, _, _, _, _, _, _ => by
    have e : b = 0 := by omega
    subst e
    exact pq_zero
  | _ + 1, _, 0, _, _, _, _, _, _, _, _, _, _, _ => pq_zero
  | k + 1, hk, b + 1, m, hb, hm, I, J, x1, x3, x4, Y, hq, hx0 => by
    unfold f320_185_l39 at hq
    have hle : b ≤ N := by omega
    refine pq_s1 hB 1 (pc' := 42) (L' := [(0, .ref 185), (1, .int x1), (3, .int x3), (4, .int x4)]) (st' := [.int x1, .int x4]) (I' := I) (J' := J) (by with_unfolding_all rfl) ?_
    refine pq_icn hB rfl (fun h8 => ?_) (fun h8 => ?_)
    · rw [h8, cond_true] at hq
      exact pq_le (by omega) (hx0 hq.symm)
    · rw [h8, cond_false] at hq
      refine pq_s hB 9 (pc' := 39) (L' := [(4, .int (x4 + 2)), (3, .int (x3 ||| (I 194 (x4).toNatClampNeg))), (0, .ref 185), (1, .int x1)]) (st' := []) (I' := I) (J' := J) (by with_unfolding_all rfl) ?_
      refine pq_perm (L := [(0, .ref 185), (1, .int x1), (3, .int (x3 ||| (I 194 (x4).toNatClampNeg))), (4, .int (x4 + 2))]) (leqn_of ⟨rfl, rfl, rfl, rfl, trivial⟩ ⟨rfl, rfl, rfl, rfl, trivial⟩ ⟨rfl, rfl, rfl, rfl, trivial⟩) ?_
      exact f320_185_l39_pq hB k (by omega) b m (by omega) (by omega) hq hx0
-- LPModel.share
def f320_185 (N : Nat) (I : tI) (J : tJ) (a0 : Int32) (a1 : Int32) : Option (Int32 × tI × tJ) :=
  (match f216 I J ((a0).toInt64) 1 60 with | (v1, I1, J1) => bif xcmp .eq v1 0 then (match f205_185 I1 J1 1 with | (v3, I3, J3) => some (v3, I3, J3)) else bif xcmp .lt a1 0 then (match f205_185 I1 J1 1 with | (v5, I5, J5) => some (v5, I5, J5)) else bif xcmp .le a1 1 then (match f305_185 N I1 J1 a0 with | none => none | some (_, I7, J7) => (match f320_185_l39 N N I7 J7 a0 0 (1 + a1) with | none => none | some (y8_1, y8_3, y8_4, I8, J8) => (match f259 N I8 J8 y8_3 with | none => none | some (v9, I9, J9) => (match f206_185 I9 J9 v9 with | (v10, I10, J10) => some (v10, I10, J10))))) else (match f205_185 I1 J1 1 with | (v11, I11, J11) => some (v11, I11, J11)))
set_option maxRecDepth 100000 in
theorem f320_185_pq {sc : List Int32} {B : xM} {N : Nat} {I : tI} {J : tJ} {a0 : Int32} {a1 : Int32} (hB : kB pT B) : ∀ {X : Option (Int32 × tI × tJ)}, f320_185 N I J a0 a1 = X → pq sc B N (xt_320, 5, 1) 0 [(0, .ref 185), (1, .int a0), (2, .int a1)] [] I J (fun v I1 J1 => ∃ a, v = some (.int a) ∧ X = some (a, I1, J1)) := by
  intro X hq
  unfold f320_185 at hq
  have hle : N ≤ N := Nat.le_refl N
  refine pq_s hB 4 (pc' := 6) (L' := [(0, .ref 185), (1, .int a0), (2, .int a1)]) (st' := [.long 60, .long 1, .long (a0).toInt64]) (I' := I) (J' := J) (by with_unfolding_all rfl) ?_
  generalize hc1 : f216 I J ((a0).toInt64) 1 60 = q1 at hq
  obtain ⟨v1, _, _⟩ := q1
  dsimp only at hq
  refine pq_1 rfl rfl rfl rfl (f216_pq hB hc1) ?_
  rintro _ I1 J1 ⟨rfl, rfl, rfl⟩
  refine pq_ifn hB rfl (fun h2 => ?_) (fun h2 => ?_)
  · rw [h2, cond_true] at hq
    refine pq_s hB 2 (pc' := 23) (L' := [(0, .ref 185), (1, .int a0), (2, .int a1)]) (st' := [.int 1, .ref 185]) (I' := I1) (J' := J1) (by with_unfolding_all rfl) ?_
    generalize hc3 : f205_185 I1 J1 1 = q3 at hq
    obtain ⟨v3, _, _⟩ := q3
    dsimp only at hq
    refine pq_1 rfl rfl rfl rfl (f205_185_pq hB hc3) ?_
    rintro _ I3 J3 ⟨rfl, rfl, rfl⟩
    subst hq
    exact pq_2i (x := v3) rfl ⟨_, rfl, rfl⟩
  · rw [h2, cond_false] at hq
    refine pq_s hB 1 (pc' := 13) (L' := [(0, .ref 185), (1, .int a0), (2, .int a1)]) (st' := [.int a1]) (I' := I1) (J' := J1) (by with_unfolding_all rfl) ?_
    refine pq_ifn hB rfl (fun h4 => ?_) (fun h4 => ?_)
    · rw [h4, cond_true] at hq
      refine pq_s hB 2 (pc' := 23) (L' := [(0, .ref 185), (1, .int a0), (2, .int a1)]) (st' := [.int 1, .ref 185]) (I' := I1) (J' := J1) (by with_unfolding_all rfl) ?_
      generalize hc5 : f205_185 I1 J1 1 = q5 at hq
      obtain ⟨v5, _, _⟩ := q5
      dsimp only at hq
      refine pq_1 rfl rfl rfl rfl (f205_185_pq hB hc5) ?_
      rintro _ I5 J5 ⟨rfl, rfl, rfl⟩
      subst hq
      exact pq_2i (x := v5) rfl ⟨_, rfl, rfl⟩
    · rw [h4, cond_false] at hq
      refine pq_s hB 2 (pc' := 18) (L' := [(0, .ref 185), (1, .int a0), (2, .int a1)]) (st' := [.int 1, .int a1]) (I' := I1) (J' := J1) (by with_unfolding_all rfl) ?_
      refine pq_icn hB rfl (fun h6 => ?_) (fun h6 => ?_)
      · rw [h6, cond_true] at hq
        refine pq_s hB 2 (pc' := 29) (L' := [(0, .ref 185), (1, .int a0), (2, .int a1)]) (st' := [.int a0, .ref 185]) (I' := I1) (J' := J1) (by with_unfolding_all rfl) ?_
        refine pq_1 rfl rfl rfl rfl (pq_le hle (f305_185_pq hB rfl)) ?_
        rintro _ I7 J7 ⟨rfl, hc7⟩
        rw [hc7] at hq
        dsimp only at hq
        refine pq_s hB 6 (pc' := 39) (L' := [(4, .int (1 + a1)), (3, .int 0), (0, .ref 185), (1, .int a0), (2, .int a1)]) (st' := []) (I' := I7) (J' := J7) (by with_unfolding_all rfl) ?_
        refine pq_perm (L := [(0, .ref 185), (1, .int a0), (3, .int 0), (4, .int (1 + a1))]) (leqn_of ⟨rfl, rfl, rfl, rfl, trivial⟩ ⟨rfl, rfl, rfl, rfl, trivial⟩ ⟨rfl, rfl, rfl, rfl, rfl, trivial⟩) ?_
        refine f320_185_l39_pq hB N (Nat.le_refl N) N N hle (Nat.le_refl N) rfl ?_
        intro y8_1 y8_3 y8_4 I8 J8 hc8
        rw [hc8] at hq
        dsimp only at hq
        refine pq_s hB 2 (pc' := 63) (L' := [(0, .ref 185), (1, .int y8_1), (3, .int y8_3), (4, .int y8_4)]) (st' := [.int y8_3, .ref 185]) (I' := I8) (J' := J8) (by with_unfolding_all rfl) ?_
        refine pq_1 rfl rfl rfl rfl (pq_le hle (f259_pq hB rfl)) ?_
        rintro _ I9 J9 ⟨v9, rfl, hc9⟩
        rw [hc9] at hq
        dsimp only at hq
        generalize hc10 : f206_185 I9 J9 v9 = q10 at hq
        obtain ⟨v10, _, _⟩ := q10
        dsimp only at hq
        refine pq_1 rfl rfl rfl rfl (f206_185_pq hB hc10) ?_
        rintro _ I10 J10 ⟨rfl, rfl, rfl⟩
        subst hq
        exact pq_2i (x := v10) rfl ⟨_, rfl, rfl⟩
      · rw [h6, cond_false] at hq
        refine pq_s hB 2 (pc' := 23) (L' := [(0, .ref 185), (1, .int a0), (2, .int a1)]) (st' := [.int 1, .ref 185]) (I' := I1) (J' := J1) (by with_unfolding_all rfl) ?_
        generalize hc11 : f205_185 I1 J1 1 = q11 at hq
        obtain ⟨v11, _, _⟩ := q11
        dsimp only at hq
        refine pq_1 rfl rfl rfl rfl (f205_185_pq hB hc11) ?_
        rintro _ I11 J11 ⟨rfl, rfl, rfl⟩
        subst hq
        exact pq_2i (x := v11) rfl ⟨_, rfl, rfl⟩
-- LPModel.isGame
def f321_185 (I : tI) (J : tJ) (a0 : Int32) (a1 : Int32) : Int32 × tI × tJ :=
  (match f255_185 I J a0 with | (v1, I1, J1) => bif xcmp .eq v1 0 then (0, I1, J1) else (match f216 I1 J1 ((a1).toInt64) 1 9 with | (v3, I3, J3) => bif xcmp .eq v3 0 then (0, I3, J3) else (1, I3, J3)))
set_option maxRecDepth 100000 in
theorem f321_185_pq {sc : List Int32} {B : xM} {n : Nat} {I : tI} {J : tJ} {a0 : Int32} {a1 : Int32} (hB : kB pT B) : ∀ {q : Int32 × tI × tJ}, f321_185 I J a0 a1 = q → pq sc B n (xt_321, 3, 3) 0 [(0, .ref 185), (1, .int a0), (2, .int a1)] [] I J (fun v I1 J1 => v = some (.int q.1) ∧ I1 = q.2.1 ∧ J1 = q.2.2) := by
  intro q hq
  unfold f321_185 at hq
  refine pq_s hB 2 (pc' := 2) (L' := [(0, .ref 185), (1, .int a0), (2, .int a1)]) (st' := [.int a0, .ref 185]) (I' := I) (J' := J) (by with_unfolding_all rfl) ?_
  generalize hc1 : f255_185 I J a0 = q1 at hq
  obtain ⟨v1, _, _⟩ := q1
  dsimp only at hq
  refine pq_1 rfl rfl rfl rfl (f255_185_pq hB hc1) ?_
  rintro _ I1 J1 ⟨rfl, rfl, rfl⟩
  refine pq_ifn hB rfl (fun h2 => ?_) (fun h2 => ?_)
  · rw [h2, cond_true] at hq
    refine pq_s hB 1 (pc' := 25) (L' := [(0, .ref 185), (1, .int a0), (2, .int a1)]) (st' := [.int 0]) (I' := I1) (J' := J1) (by with_unfolding_all rfl) ?_
    subst hq
    exact pq_2i (x := 0) rfl ⟨rfl, rfl, rfl⟩
  · rw [h2, cond_false] at hq
    refine pq_s hB 4 (pc' := 14) (L' := [(0, .ref 185), (1, .int a0), (2, .int a1)]) (st' := [.long 9, .long 1, .long (a1).toInt64]) (I' := I1) (J' := J1) (by with_unfolding_all rfl) ?_
    generalize hc3 : f216 I1 J1 ((a1).toInt64) 1 9 = q3 at hq
    obtain ⟨v3, _, _⟩ := q3
    dsimp only at hq
    refine pq_1 rfl rfl rfl rfl (f216_pq hB hc3) ?_
    rintro _ I3 J3 ⟨rfl, rfl, rfl⟩
    refine pq_ifn hB rfl (fun h4 => ?_) (fun h4 => ?_)
    · rw [h4, cond_true] at hq
      refine pq_s hB 1 (pc' := 25) (L' := [(0, .ref 185), (1, .int a0), (2, .int a1)]) (st' := [.int 0]) (I' := I3) (J' := J3) (by with_unfolding_all rfl) ?_
      subst hq
      exact pq_2i (x := 0) rfl ⟨rfl, rfl, rfl⟩
    · rw [h4, cond_false] at hq
      refine pq_s hB 2 (pc' := 25) (L' := [(0, .ref 185), (1, .int a0), (2, .int a1)]) (st' := [.int 1]) (I' := I3) (J' := J3) (by with_unfolding_all rfl) ?_
      subst hq
      exact pq_2i (x := 1) rfl ⟨rfl, rfl, rfl⟩
-- LPModel.turns
def f322_185 (N : Nat) (I : tI) (J : tJ) (a0 : Int32) (a1 : Int32) : Option (Int32 × tI × tJ) :=
  (match f321_185 I J a0 a1 with | (v1, I1, J1) => bif xcmp .ne v1 0 then (match f306_185 N I1 J1 a0 with | none => none | some (v3, I3, J3) => bif xcmp .ne v3 (-1) then (bif xcmp .ne (v3 - v3 / (a1 + 1) * (a1 + 1)) 0 then (match f206_185 I3 J3 1 with | (v6, I6, J6) => some (v6, I6, J6)) else (match f206_185 I3 J3 0 with | (v7, I7, J7) => some (v7, I7, J7))) else (match f205_185 I3 J3 6 with | (v8, I8, J8) => some (v8, I8, J8))) else (match f205_185 I1 J1 1 with | (v9, I9, J9) => some (v9, I9, J9)))
set_option maxRecDepth 100000 in
theorem f322_185_pq {sc : List Int32} {B : xM} {N : Nat} {I : tI} {J : tJ} {a0 : Int32} {a1 : Int32} (hB : kB pT B) : ∀ {X : Option (Int32 × tI × tJ)}, f322_185 N I J a0 a1 = X → pq sc B N (xt_322, 4, 1) 0 [(0, .ref 185), (1, .int a0), (2, .int a1)] [] I J (fun v I1 J1 => ∃ a, v = some (.int a) ∧ X = some (a, I1, J1)) := by
  intro X hq
  unfold f322_185 at hq
  have hle : N ≤ N := Nat.le_refl N
  refine pq_s hB 3 (pc' := 3) (L' := [(0, .ref 185), (1, .int a0), (2, .int a1)]) (st' := [.int a1, .int a0, .ref 185]) (I' := I) (J' := J) (by with_unfolding_all rfl) ?_
  generalize hc1 : f321_185 I J a0 a1 = q1 at hq
  obtain ⟨v1, _, _⟩ := q1
  dsimp only at hq
  refine pq_1 rfl rfl rfl rfl (f321_185_pq hB hc1) ?_
  rintro _ I1 J1 ⟨rfl, rfl, rfl⟩
  refine pq_ifn hB rfl (fun h2 => ?_) (fun h2 => ?_)
  · rw [h2, cond_true] at hq
    refine pq_s hB 2 (pc' := 17) (L' := [(0, .ref 185), (1, .int a0), (2, .int a1)]) (st' := [.int a0, .ref 185]) (I' := I1) (J' := J1) (by with_unfolding_all rfl) ?_
    refine pq_1 rfl rfl rfl rfl (pq_le hle (f306_185_pq hB rfl)) ?_
    rintro _ I3 J3 ⟨v3, rfl, hc3⟩
    rw [hc3] at hq
    dsimp only at hq
    refine pq_s hB 3 (pc' := 23) (L' := [(3, .int v3), (0, .ref 185), (1, .int a0), (2, .int a1)]) (st' := [.int (-1), .int v3]) (I' := I3) (J' := J3) (by with_unfolding_all rfl) ?_
    refine pq_icn hB rfl (fun h4 => ?_) (fun h4 => ?_)
    · rw [h4, cond_true] at hq
      refine pq_s hB 5 (pc' := 40) (L' := [(3, .int v3), (0, .ref 185), (1, .int a0), (2, .int a1)]) (st' := [.int (a1 + 1), .int v3, .ref 185]) (I' := I3) (J' := J3) (by with_unfolding_all rfl) ?_
      refine pq_irem hB rfl (fun _ => ?_)
      refine pq_ifn hB rfl (fun h5 => ?_) (fun h5 => ?_)
      · rw [h5, cond_true] at hq
        refine pq_s hB 1 (pc' := 49) (L' := [(3, .int v3), (0, .ref 185), (1, .int a0), (2, .int a1)]) (st' := [.int 1, .ref 185]) (I' := I3) (J' := J3) (by with_unfolding_all rfl) ?_
        generalize hc6 : f206_185 I3 J3 1 = q6 at hq
        obtain ⟨v6, _, _⟩ := q6
        dsimp only at hq
        refine pq_1 rfl rfl rfl rfl (f206_185_pq hB hc6) ?_
        rintro _ I6 J6 ⟨rfl, rfl, rfl⟩
        subst hq
        exact pq_2i (x := v6) rfl ⟨_, rfl, rfl⟩
      · rw [h5, cond_false] at hq
        refine pq_s hB 2 (pc' := 49) (L' := [(3, .int v3), (0, .ref 185), (1, .int a0), (2, .int a1)]) (st' := [.int 0, .ref 185]) (I' := I3) (J' := J3) (by with_unfolding_all rfl) ?_
        generalize hc7 : f206_185 I3 J3 0 = q7 at hq
        obtain ⟨v7, _, _⟩ := q7
        dsimp only at hq
        refine pq_1 rfl rfl rfl rfl (f206_185_pq hB hc7) ?_
        rintro _ I7 J7 ⟨rfl, rfl, rfl⟩
        subst hq
        exact pq_2i (x := v7) rfl ⟨_, rfl, rfl⟩
    · rw [h4, cond_false] at hq
      refine pq_s hB 2 (pc' := 29) (L' := [(3, .int v3), (0, .ref 185), (1, .int a0), (2, .int a1)]) (st' := [.int 6, .ref 185]) (I' := I3) (J' := J3) (by with_unfolding_all rfl) ?_
      generalize hc8 : f205_185 I3 J3 6 = q8 at hq
      obtain ⟨v8, _, _⟩ := q8
      dsimp only at hq
      refine pq_1 rfl rfl rfl rfl (f205_185_pq hB hc8) ?_
      rintro _ I8 J8 ⟨rfl, rfl, rfl⟩
      refine pq_s hB 1 (pc' := 52) (L' := [(3, .int v3), (0, .ref 185), (1, .int a0), (2, .int a1)]) (st' := [.int v8]) (I' := I8) (J' := J8) (by with_unfolding_all rfl) ?_
      subst hq
      exact pq_2i (x := v8) rfl ⟨_, rfl, rfl⟩
  · rw [h2, cond_false] at hq
    refine pq_s hB 2 (pc' := 11) (L' := [(0, .ref 185), (1, .int a0), (2, .int a1)]) (st' := [.int 1, .ref 185]) (I' := I1) (J' := J1) (by with_unfolding_all rfl) ?_
    generalize hc9 : f205_185 I1 J1 1 = q9 at hq
    obtain ⟨v9, _, _⟩ := q9
    dsimp only at hq
    refine pq_1 rfl rfl rfl rfl (f205_185_pq hB hc9) ?_
    rintro _ I9 J9 ⟨rfl, rfl, rfl⟩
    subst hq
    exact pq_2i (x := v9) rfl ⟨_, rfl, rfl⟩
-- LPModel.turnsFirst
def f323_185 (N : Nat) (I : tI) (J : tJ) (a0 : Int32) (a1 : Int32) : Option (Int32 × tI × tJ) :=
  (match f321_185 I J a0 a1 with | (v1, I1, J1) => bif xcmp .ne v1 0 then (match f306_185 N I1 J1 a0 with | none => none | some (v3, I3, J3) => bif xcmp .eq v3 (-1) then (match f205_185 I3 J3 6 with | (v5, I5, J5) => some (v5, I5, J5)) else bif xcmp .ne (v3 - v3 / (a1 + 1) * (a1 + 1)) 0 then (match f206_185 I3 J3 (v3 - v3 / (a1 + 1) * (a1 + 1)) with | (v7, I7, J7) => some (v7, I7, J7)) else (match f205_185 I3 J3 6 with | (v8, I8, J8) => some (v8, I8, J8))) else (match f205_185 I1 J1 1 with | (v9, I9, J9) => some (v9, I9, J9)))
set_option maxRecDepth 100000 in
theorem f323_185_pq {sc : List Int32} {B : xM} {N : Nat} {I : tI} {J : tJ} {a0 : Int32} {a1 : Int32} (hB : kB pT B) : ∀ {X : Option (Int32 × tI × tJ)}, f323_185 N I J a0 a1 = X → pq sc B N (xt_323, 4, 1) 0 [(0, .ref 185), (1, .int a0), (2, .int a1)] [] I J (fun v I1 J1 => ∃ a, v = some (.int a) ∧ X = some (a, I1, J1)) := by
  intro X hq
  unfold f323_185 at hq
  have hle : N ≤ N := Nat.le_refl N
  refine pq_s hB 3 (pc' := 3) (L' := [(0, .ref 185), (1, .int a0), (2, .int a1)]) (st' := [.int a1, .int a0, .ref 185]) (I' := I) (J' := J) (by with_unfolding_all rfl) ?_
  generalize hc1 : f321_185 I J a0 a1 = q1 at hq
  obtain ⟨v1, _, _⟩ := q1
  dsimp only at hq
  refine pq_1 rfl rfl rfl rfl (f321_185_pq hB hc1) ?_
  rintro _ I1 J1 ⟨rfl, rfl, rfl⟩
  refine pq_ifn hB rfl (fun h2 => ?_) (fun h2 => ?_)
  · rw [h2, cond_true] at hq
    refine pq_s hB 2 (pc' := 17) (L' := [(0, .ref 185), (1, .int a0), (2, .int a1)]) (st' := [.int a0, .ref 185]) (I' := I1) (J' := J1) (by with_unfolding_all rfl) ?_
    refine pq_1 rfl rfl rfl rfl (pq_le hle (f306_185_pq hB rfl)) ?_
    rintro _ I3 J3 ⟨v3, rfl, hc3⟩
    rw [hc3] at hq
    dsimp only at hq
    refine pq_s hB 3 (pc' := 23) (L' := [(3, .int v3), (0, .ref 185), (1, .int a0), (2, .int a1)]) (st' := [.int (-1), .int v3]) (I' := I3) (J' := J3) (by with_unfolding_all rfl) ?_
    refine pq_icn hB rfl (fun h4 => ?_) (fun h4 => ?_)
    · rw [h4, cond_true] at hq
      refine pq_s hB 2 (pc' := 37) (L' := [(3, .int v3), (0, .ref 185), (1, .int a0), (2, .int a1)]) (st' := [.int 6, .ref 185]) (I' := I3) (J' := J3) (by with_unfolding_all rfl) ?_
      generalize hc5 : f205_185 I3 J3 6 = q5 at hq
      obtain ⟨v5, _, _⟩ := q5
      dsimp only at hq
      refine pq_1 rfl rfl rfl rfl (f205_185_pq hB hc5) ?_
      rintro _ I5 J5 ⟨rfl, rfl, rfl⟩
      refine pq_s hB 1 (pc' := 52) (L' := [(3, .int v3), (0, .ref 185), (1, .int a0), (2, .int a1)]) (st' := [.int v5]) (I' := I5) (J' := J5) (by with_unfolding_all rfl) ?_
      subst hq
      exact pq_2i (x := v5) rfl ⟨_, rfl, rfl⟩
    · rw [h4, cond_false] at hq
      refine pq_s hB 4 (pc' := 30) (L' := [(3, .int v3), (0, .ref 185), (1, .int a0), (2, .int a1)]) (st' := [.int (a1 + 1), .int v3]) (I' := I3) (J' := J3) (by with_unfolding_all rfl) ?_
      refine pq_irem hB rfl (fun _ => ?_)
      refine pq_ifn hB rfl (fun h6 => ?_) (fun h6 => ?_)
      · rw [h6, cond_true] at hq
        refine pq_s hB 5 (pc' := 48) (L' := [(3, .int v3), (0, .ref 185), (1, .int a0), (2, .int a1)]) (st' := [.int (a1 + 1), .int v3, .ref 185]) (I' := I3) (J' := J3) (by with_unfolding_all rfl) ?_
        refine pq_irem hB rfl (fun _ => ?_)
        generalize hc7 : f206_185 I3 J3 (v3 - v3 / (a1 + 1) * (a1 + 1)) = q7 at hq
        obtain ⟨v7, _, _⟩ := q7
        dsimp only at hq
        refine pq_1 rfl rfl rfl rfl (f206_185_pq hB hc7) ?_
        rintro _ I7 J7 ⟨rfl, rfl, rfl⟩
        subst hq
        exact pq_2i (x := v7) rfl ⟨_, rfl, rfl⟩
      · rw [h6, cond_false] at hq
        refine pq_s hB 2 (pc' := 37) (L' := [(3, .int v3), (0, .ref 185), (1, .int a0), (2, .int a1)]) (st' := [.int 6, .ref 185]) (I' := I3) (J' := J3) (by with_unfolding_all rfl) ?_
        generalize hc8 : f205_185 I3 J3 6 = q8 at hq
        obtain ⟨v8, _, _⟩ := q8
        dsimp only at hq
        refine pq_1 rfl rfl rfl rfl (f205_185_pq hB hc8) ?_
        rintro _ I8 J8 ⟨rfl, rfl, rfl⟩
        refine pq_s hB 1 (pc' := 52) (L' := [(3, .int v3), (0, .ref 185), (1, .int a0), (2, .int a1)]) (st' := [.int v8]) (I' := I8) (J' := J8) (by with_unfolding_all rfl) ?_
        subst hq
        exact pq_2i (x := v8) rfl ⟨_, rfl, rfl⟩
  · rw [h2, cond_false] at hq
    refine pq_s hB 2 (pc' := 11) (L' := [(0, .ref 185), (1, .int a0), (2, .int a1)]) (st' := [.int 1, .ref 185]) (I' := I1) (J' := J1) (by with_unfolding_all rfl) ?_
    generalize hc9 : f205_185 I1 J1 1 = q9 at hq
    obtain ⟨v9, _, _⟩ := q9
    dsimp only at hq
    refine pq_1 rfl rfl rfl rfl (f205_185_pq hB hc9) ?_
    rintro _ I9 J9 ⟨rfl, rfl, rfl⟩
    subst hq
    exact pq_2i (x := v9) rfl ⟨_, rfl, rfl⟩
-- LPModel.isBuyer
def f256_185 (I : tI) (J : tJ) (a0 : Int32) : Int32 × tI × tJ :=
  bif xcmp .lt a0 0 then (0, I, J) else bif xcmp .ge a0 (I 186 4) then (0, I, J) else (1, I, J)
set_option maxRecDepth 100000 in
theorem f256_185_pq {sc : List Int32} {B : xM} {n : Nat} {I : tI} {J : tJ} {a0 : Int32} (hB : kB pT B) : ∀ {q : Int32 × tI × tJ}, f256_185 I J a0 = q → pq sc B n (xt_256, 2, 3) 0 [(0, .ref 185), (1, .int a0)] [] I J (fun v I1 J1 => v = some (.int q.1) ∧ I1 = q.2.1 ∧ J1 = q.2.2) := by
  intro q hq
  unfold f256_185 at hq
  refine pq_s hB 1 (pc' := 1) (L' := [(0, .ref 185), (1, .int a0)]) (st' := [.int a0]) (I' := I) (J' := J) (by with_unfolding_all rfl) ?_
  refine pq_ifn hB rfl (fun h1 => ?_) (fun h1 => ?_)
  · rw [h1, cond_true] at hq
    refine pq_s hB 1 (pc' := 19) (L' := [(0, .ref 185), (1, .int a0)]) (st' := [.int 0]) (I' := I) (J' := J) (by with_unfolding_all rfl) ?_
    subst hq
    exact pq_2i (x := 0) rfl ⟨rfl, rfl, rfl⟩
  · rw [h1, cond_false] at hq
    refine pq_s hB 5 (pc' := 11) (L' := [(0, .ref 185), (1, .int a0)]) (st' := [.int (I 186 4), .int a0]) (I' := I) (J' := J) (by with_unfolding_all rfl) ?_
    refine pq_icn hB rfl (fun h2 => ?_) (fun h2 => ?_)
    · rw [h2, cond_true] at hq
      refine pq_s hB 1 (pc' := 19) (L' := [(0, .ref 185), (1, .int a0)]) (st' := [.int 0]) (I' := I) (J' := J) (by with_unfolding_all rfl) ?_
      subst hq
      exact pq_2i (x := 0) rfl ⟨rfl, rfl, rfl⟩
    · rw [h2, cond_false] at hq
      refine pq_s hB 2 (pc' := 19) (L' := [(0, .ref 185), (1, .int a0)]) (st' := [.int 1]) (I' := I) (J' := J) (by with_unfolding_all rfl) ?_
      subst hq
      exact pq_2i (x := 1) rfl ⟨rfl, rfl, rfl⟩
-- LPModel.affordOf, the loop at 2, to [35]
def f325_185_l2 (N : Nat) : Nat → tI → tJ → Int32 → Int32 → Option (Int32 × Int32 × tI × tJ)
  | 0, _, _, _, _ => none
  | k + 1, I, J, x1, x2 =>
    bif xcmp .ge x2 200 then some (x1, x2, I, J) else (match f300_185 N I J (x2 + 1) with | none => none | some (v2, I2, J2) => bif xcmp .gt v2 (I2 186 ((128 + x1)).toNatClampNeg) then some (x1, x2, I2, J2) else f325_185_l2 N k I2 J2 x1 (x2 + 1))
set_option maxRecDepth 100000 in
theorem f325_185_l2_pq {sc : List Int32} {B : xM} {N : Nat} {P : Option Value → tI → tJ → Prop} (hB : kB pT B) : ∀ (k : Nat), k ≤ N → ∀ (b m : Nat), b ≤ k → b ≤ m → ∀ {I : tI} {J : tJ} {x1 : Int32} {x2 : Int32} {Y : Option (Int32 × Int32 × tI × tJ)}, f325_185_l2 N k I J x1 x2 = Y → (∀ {y1 : Int32} {y2 : Int32} {I1 : tI} {J1 : tJ}, Y = some (y1, y2, I1, J1) → pq sc B m (xt_325, 3, 1) 35 [(0, .ref 185), (1, .int y1), (2, .int y2)] [] I1 J1 P) → pq sc B b (xt_325, 3, 1) 2 [(0, .ref 185), (1, .int x1), (2, .int x2)] [] I J P
  | 0, _, b, _, hb, _, _, _, _, _, _, _, _ => by
    have e : b = 0 := by omega
    subst e
    exact pq_zero
  | _ + 1, _, 0, _, _, _, _, _, _, _, _, _, _ => pq_zero
  | k + 1, hk, b + 1, m, hb, hm, I, J, x1, x2, Y, hq, hx0 => by
    unfold f325_185_l2 at hq
    have hle : b ≤ N := by omega
    refine pq_s1 hB 1 (pc' := 6) (L' := [(0, .ref 185), (1, .int x1), (2, .int x2)]) (st' := [.int 200, .int x2]) (I' := I) (J' := J) (by with_unfolding_all rfl) ?_
    refine pq_icn hB rfl (fun h1 => ?_) (fun h1 => ?_)
    · rw [h1, cond_true] at hq
      exact pq_le (by omega) (hx0 hq.symm)
    · rw [h1, cond_false] at hq
      refine pq_s hB 4 (pc' := 13) (L' := [(0, .ref 185), (1, .int x1), (2, .int x2)]) (st' := [.int (x2 + 1), .ref 185]) (I' := I) (J' := J) (by with_unfolding_all rfl) ?_
      refine pq_1 rfl rfl rfl rfl (pq_le hle (f300_185_pq hB rfl)) ?_
      rintro _ I2 J2 ⟨v2, rfl, hc2⟩
      rw [hc2] at hq
      dsimp only at hq
      refine pq_s hB 6 (pc' := 26) (L' := [(0, .ref 185), (1, .int x1), (2, .int x2)]) (st' := [.int (I2 186 ((128 + x1)).toNatClampNeg), .int v2]) (I' := I2) (J' := J2) (by with_unfolding_all rfl) ?_
      refine pq_icn hB rfl (fun h3 => ?_) (fun h3 => ?_)
      · rw [h3, cond_true] at hq
        exact pq_le (by omega) (hx0 hq.symm)
      · rw [h3, cond_false] at hq
        refine pq_s hB 2 (pc' := 2) (L' := [(2, .int (x2 + 1)), (0, .ref 185), (1, .int x1)]) (st' := []) (I' := I2) (J' := J2) (by with_unfolding_all rfl) ?_
        refine pq_perm (L := [(0, .ref 185), (1, .int x1), (2, .int (x2 + 1))]) (leqn_of ⟨rfl, rfl, rfl, trivial⟩ ⟨rfl, rfl, rfl, trivial⟩ ⟨rfl, rfl, rfl, trivial⟩) ?_
        exact f325_185_l2_pq hB k (by omega) b m (by omega) (by omega) hq hx0
-- LPModel.affordOf
def f325_185 (N : Nat) (I : tI) (J : tJ) (a0 : Int32) : Option (Int32 × tI × tJ) :=
  (match f325_185_l2 N N I J a0 0 with | none => none | some (y1_1, y1_2, I1, J1) => some (y1_2, I1, J1))
set_option maxRecDepth 100000 in
theorem f325_185_pq {sc : List Int32} {B : xM} {N : Nat} {I : tI} {J : tJ} {a0 : Int32} (hB : kB pT B) : ∀ {X : Option (Int32 × tI × tJ)}, f325_185 N I J a0 = X → pq sc B N (xt_325, 3, 1) 0 [(0, .ref 185), (1, .int a0)] [] I J (fun v I1 J1 => ∃ a, v = some (.int a) ∧ X = some (a, I1, J1)) := by
  intro X hq
  unfold f325_185 at hq
  have hle : N ≤ N := Nat.le_refl N
  refine pq_s hB 2 (pc' := 2) (L' := [(2, .int 0), (0, .ref 185), (1, .int a0)]) (st' := []) (I' := I) (J' := J) (by with_unfolding_all rfl) ?_
  refine pq_perm (L := [(0, .ref 185), (1, .int a0), (2, .int 0)]) (leqn_of ⟨rfl, rfl, rfl, trivial⟩ ⟨rfl, rfl, rfl, trivial⟩ ⟨rfl, rfl, rfl, trivial⟩) ?_
  refine f325_185_l2_pq hB N (Nat.le_refl N) N N hle (Nat.le_refl N) rfl ?_
  intro y1_1 y1_2 I1 J1 hc1
  rw [hc1] at hq
  dsimp only at hq
  refine pq_s hB 1 (pc' := 36) (L' := [(0, .ref 185), (1, .int y1_1), (2, .int y1_2)]) (st' := [.int y1_2]) (I' := I1) (J' := J1) (by with_unfolding_all rfl) ?_
  subst hq
  exact pq_2i (x := y1_2) rfl ⟨_, rfl, rfl⟩
-- LPModel.sees, the loop at 30, to [52]
def f327_185_l30 (N : Nat) : Nat → tI → tJ → Int32 → Int32 → Int32 → Option (Int32 × Int32 × Int32 × tI × tJ)
  | 0, _, _, _, _, _ => none
  | k + 1, I, J, x2, x3, x4 =>
    bif xcmp .gt x4 x2 then some (x2, x3, x4, I, J) else f327_185_l30 N k I J x2 (x3 ||| (I 194 (x4).toNatClampNeg)) (x4 + 1)
set_option maxRecDepth 100000 in
theorem f327_185_l30_pq {sc : List Int32} {B : xM} {N : Nat} {P : Option Value → tI → tJ → Prop} (hB : kB pT B) : ∀ (k : Nat), k ≤ N → ∀ (b m : Nat), b ≤ k → b ≤ m → ∀ {I : tI} {J : tJ} {x2 : Int32} {x3 : Int32} {x4 : Int32} {Y : Option (Int32 × Int32 × Int32 × tI × tJ)}, f327_185_l30 N k I J x2 x3 x4 = Y → (∀ {y2 : Int32} {y3 : Int32} {y4 : Int32} {I1 : tI} {J1 : tJ}, Y = some (y2, y3, y4, I1, J1) → pq sc B m (xt_327, 5, 1) 52 [(0, .ref 185), (2, .int y2), (3, .int y3), (4, .int y4)] [] I1 J1 P) → pq sc B b (xt_327, 5, 1) 30 [(0, .ref 185), (2, .int x2), (3, .int x3), (4, .int x4)] [] I J P
  | 0, _, b, _, hb, _, _, _, _, _, _, _, _, _ => by
    have e : b = 0 := by omega
    subst e
    exact pq_zero
  | _ + 1, _, 0, _, _, _, _, _, _, _, _, _, _, _ => pq_zero
  | k + 1, hk, b + 1, m, hb, hm, I, J, x2, x3, x4, Y, hq, hx0 => by
    unfold f327_185_l30 at hq
    have hle : b ≤ N := by omega
    refine pq_s1 hB 1 (pc' := 33) (L' := [(0, .ref 185), (2, .int x2), (3, .int x3), (4, .int x4)]) (st' := [.int x2, .int x4]) (I' := I) (J' := J) (by with_unfolding_all rfl) ?_
    refine pq_icn hB rfl (fun h5 => ?_) (fun h5 => ?_)
    · rw [h5, cond_true] at hq
      exact pq_le (by omega) (hx0 hq.symm)
    · rw [h5, cond_false] at hq
      refine pq_s hB 9 (pc' := 30) (L' := [(4, .int (x4 + 1)), (3, .int (x3 ||| (I 194 (x4).toNatClampNeg))), (0, .ref 185), (2, .int x2)]) (st' := []) (I' := I) (J' := J) (by with_unfolding_all rfl) ?_
      refine pq_perm (L := [(0, .ref 185), (2, .int x2), (3, .int (x3 ||| (I 194 (x4).toNatClampNeg))), (4, .int (x4 + 1))]) (leqn_of ⟨rfl, rfl, rfl, rfl, trivial⟩ ⟨rfl, rfl, rfl, rfl, trivial⟩ ⟨rfl, rfl, rfl, rfl, trivial⟩) ?_
      exact f327_185_l30_pq hB k (by omega) b m (by omega) (by omega) hq hx0
-- LPModel.sees
def f327_185 (N : Nat) (I : tI) (J : tJ) (a0 : Int32) : Option (Int32 × tI × tJ) :=
  (match f256_185 I J a0 with | (v1, I1, J1) => bif xcmp .ne v1 0 then (match f325_185 N I1 J1 a0 with | none => none | some (v3, I3, J3) => (match f305_185 N I3 J3 v3 with | none => none | some (_, I4, J4) => (match f327_185_l30 N N I4 J4 v3 0 1 with | none => none | some (y5_2, y5_3, y5_4, I5, J5) => (match f206_185 I5 J5 y5_3 with | (v6, I6, J6) => some (v6, I6, J6))))) else (match f205_185 I1 J1 1 with | (v7, I7, J7) => some (v7, I7, J7)))
set_option maxRecDepth 100000 in
theorem f327_185_pq {sc : List Int32} {B : xM} {N : Nat} {I : tI} {J : tJ} {a0 : Int32} (hB : kB pT B) : ∀ {X : Option (Int32 × tI × tJ)}, f327_185 N I J a0 = X → pq sc B N (xt_327, 5, 1) 0 [(0, .ref 185), (1, .int a0)] [] I J (fun v I1 J1 => ∃ a, v = some (.int a) ∧ X = some (a, I1, J1)) := by
  intro X hq
  unfold f327_185 at hq
  have hle : N ≤ N := Nat.le_refl N
  refine pq_s hB 2 (pc' := 2) (L' := [(0, .ref 185), (1, .int a0)]) (st' := [.int a0, .ref 185]) (I' := I) (J' := J) (by with_unfolding_all rfl) ?_
  generalize hc1 : f256_185 I J a0 = q1 at hq
  obtain ⟨v1, _, _⟩ := q1
  dsimp only at hq
  refine pq_1 rfl rfl rfl rfl (f256_185_pq hB hc1) ?_
  rintro _ I1 J1 ⟨rfl, rfl, rfl⟩
  refine pq_ifn hB rfl (fun h2 => ?_) (fun h2 => ?_)
  · rw [h2, cond_true] at hq
    refine pq_s hB 2 (pc' := 16) (L' := [(0, .ref 185), (1, .int a0)]) (st' := [.int a0, .ref 185]) (I' := I1) (J' := J1) (by with_unfolding_all rfl) ?_
    refine pq_1 rfl rfl rfl rfl (pq_le hle (f325_185_pq hB rfl)) ?_
    rintro _ I3 J3 ⟨v3, rfl, hc3⟩
    rw [hc3] at hq
    dsimp only at hq
    refine pq_s hB 3 (pc' := 22) (L' := [(2, .int v3), (0, .ref 185), (1, .int a0)]) (st' := [.int v3, .ref 185]) (I' := I3) (J' := J3) (by with_unfolding_all rfl) ?_
    refine pq_1 rfl rfl rfl rfl (pq_le hle (f305_185_pq hB rfl)) ?_
    rintro _ I4 J4 ⟨rfl, hc4⟩
    rw [hc4] at hq
    dsimp only at hq
    refine pq_s hB 4 (pc' := 30) (L' := [(4, .int 1), (3, .int 0), (2, .int v3), (0, .ref 185), (1, .int a0)]) (st' := []) (I' := I4) (J' := J4) (by with_unfolding_all rfl) ?_
    refine pq_perm (L := [(0, .ref 185), (2, .int v3), (3, .int 0), (4, .int 1)]) (leqn_of ⟨rfl, rfl, rfl, rfl, trivial⟩ ⟨rfl, rfl, rfl, rfl, trivial⟩ ⟨rfl, rfl, rfl, rfl, rfl, trivial⟩) ?_
    refine f327_185_l30_pq hB N (Nat.le_refl N) N N hle (Nat.le_refl N) rfl ?_
    intro y5_2 y5_3 y5_4 I5 J5 hc5
    rw [hc5] at hq
    dsimp only at hq
    refine pq_s hB 2 (pc' := 54) (L' := [(0, .ref 185), (2, .int y5_2), (3, .int y5_3), (4, .int y5_4)]) (st' := [.int y5_3, .ref 185]) (I' := I5) (J' := J5) (by with_unfolding_all rfl) ?_
    generalize hc6 : f206_185 I5 J5 y5_3 = q6 at hq
    obtain ⟨v6, _, _⟩ := q6
    dsimp only at hq
    refine pq_1 rfl rfl rfl rfl (f206_185_pq hB hc6) ?_
    rintro _ I6 J6 ⟨rfl, rfl, rfl⟩
    subst hq
    exact pq_2i (x := v6) rfl ⟨_, rfl, rfl⟩
  · rw [h2, cond_false] at hq
    refine pq_s hB 2 (pc' := 10) (L' := [(0, .ref 185), (1, .int a0)]) (st' := [.int 1, .ref 185]) (I' := I1) (J' := J1) (by with_unfolding_all rfl) ?_
    generalize hc7 : f205_185 I1 J1 1 = q7 at hq
    obtain ⟨v7, _, _⟩ := q7
    dsimp only at hq
    refine pq_1 rfl rfl rfl rfl (f205_185_pq hB hc7) ?_
    rintro _ I7 J7 ⟨rfl, rfl, rfl⟩
    subst hq
    exact pq_2i (x := v7) rfl ⟨_, rfl, rfl⟩
-- LPModel.isTray
def f209 (I : tI) (J : tJ) (a0 : Int32) : Int32 × tI × tJ :=
  bif xcmp .lt a0 0 then (0, I, J) else bif xcmp .ge a0 4 then (0, I, J) else (1, I, J)
set_option maxRecDepth 100000 in
theorem f209_pq {sc : List Int32} {B : xM} {n : Nat} {I : tI} {J : tJ} {a0 : Int32} (hB : kB pT B) : ∀ {q : Int32 × tI × tJ}, f209 I J a0 = q → pq sc B n (xt_209, 1, 3) 0 [(0, .int a0)] [] I J (fun v I1 J1 => v = some (.int q.1) ∧ I1 = q.2.1 ∧ J1 = q.2.2) := by
  intro q hq
  unfold f209 at hq
  refine pq_s hB 1 (pc' := 1) (L' := [(0, .int a0)]) (st' := [.int a0]) (I' := I) (J' := J) (by with_unfolding_all rfl) ?_
  refine pq_ifn hB rfl (fun h1 => ?_) (fun h1 => ?_)
  · rw [h1, cond_true] at hq
    refine pq_s hB 1 (pc' := 14) (L' := [(0, .int a0)]) (st' := [.int 0]) (I' := I) (J' := J) (by with_unfolding_all rfl) ?_
    subst hq
    exact pq_2i (x := 0) rfl ⟨rfl, rfl, rfl⟩
  · rw [h1, cond_false] at hq
    refine pq_s hB 2 (pc' := 6) (L' := [(0, .int a0)]) (st' := [.int 4, .int a0]) (I' := I) (J' := J) (by with_unfolding_all rfl) ?_
    refine pq_icn hB rfl (fun h2 => ?_) (fun h2 => ?_)
    · rw [h2, cond_true] at hq
      refine pq_s hB 1 (pc' := 14) (L' := [(0, .int a0)]) (st' := [.int 0]) (I' := I) (J' := J) (by with_unfolding_all rfl) ?_
      subst hq
      exact pq_2i (x := 0) rfl ⟨rfl, rfl, rfl⟩
    · rw [h2, cond_false] at hq
      refine pq_s hB 2 (pc' := 14) (L' := [(0, .int a0)]) (st' := [.int 1]) (I' := I) (J' := J) (by with_unfolding_all rfl) ?_
      subst hq
      exact pq_2i (x := 1) rfl ⟨rfl, rfl, rfl⟩
-- LPModel.cut
def f210 (I : tI) (J : tJ) (a0 : Int64) (a1 : Int32) : Int64 × tI × tJ :=
  bif xcmp .ne a1 0 then (bif xcmp .ne a1 1 then (bif xcmp .ne a1 2 then (a0, I, J) else (((a0).toInt32).toInt64, I, J)) else (((((a0).toInt32).toInt16.toInt32)).toInt64, I, J)) else ((((a0).toInt32).toInt8.toInt32).toInt64, I, J)
set_option maxRecDepth 100000 in
theorem f210_pq {sc : List Int32} {B : xM} {n : Nat} {I : tI} {J : tJ} {a0 : Int64} {a1 : Int32} (hB : kB pT B) : ∀ {q : Int64 × tI × tJ}, f210 I J a0 a1 = q → pq sc B n (xt_210, 3, 2) 0 [(0, .long a0), (2, .int a1)] [] I J (fun v I1 J1 => v = some (.long q.1) ∧ I1 = q.2.1 ∧ J1 = q.2.2) := by
  intro q hq
  unfold f210 at hq
  refine pq_s hB 1 (pc' := 1) (L' := [(0, .long a0), (2, .int a1)]) (st' := [.int a1]) (I' := I) (J' := J) (by with_unfolding_all rfl) ?_
  refine pq_ifn hB rfl (fun h1 => ?_) (fun h1 => ?_)
  · rw [h1, cond_true] at hq
    refine pq_s hB 2 (pc' := 13) (L' := [(0, .long a0), (2, .int a1)]) (st' := [.int 1, .int a1]) (I' := I) (J' := J) (by with_unfolding_all rfl) ?_
    refine pq_icn hB rfl (fun h2 => ?_) (fun h2 => ?_)
    · rw [h2, cond_true] at hq
      refine pq_s hB 2 (pc' := 25) (L' := [(0, .long a0), (2, .int a1)]) (st' := [.int 2, .int a1]) (I' := I) (J' := J) (by with_unfolding_all rfl) ?_
      refine pq_icn hB rfl (fun h3 => ?_) (fun h3 => ?_)
      · rw [h3, cond_true] at hq
        refine pq_s hB 1 (pc' := 35) (L' := [(0, .long a0), (2, .int a1)]) (st' := [.long a0]) (I' := I) (J' := J) (by with_unfolding_all rfl) ?_
        subst hq
        exact pq_2 (v := some (.long (a0))) rfl rfl (by with_unfolding_all rfl) ⟨rfl, rfl, rfl⟩
      · rw [h3, cond_false] at hq
        refine pq_s hB 4 (pc' := 35) (L' := [(0, .long a0), (2, .int a1)]) (st' := [.long ((a0).toInt32).toInt64]) (I' := I) (J' := J) (by with_unfolding_all rfl) ?_
        subst hq
        exact pq_2 (v := some (.long (((a0).toInt32).toInt64))) rfl rfl (by with_unfolding_all rfl) ⟨rfl, rfl, rfl⟩
    · rw [h2, cond_false] at hq
      refine pq_s hB 5 (pc' := 35) (L' := [(0, .long a0), (2, .int a1)]) (st' := [.long ((((a0).toInt32).toInt16.toInt32)).toInt64]) (I' := I) (J' := J) (by with_unfolding_all rfl) ?_
      subst hq
      exact pq_2 (v := some (.long (((((a0).toInt32).toInt16.toInt32)).toInt64))) rfl rfl (by with_unfolding_all rfl) ⟨rfl, rfl, rfl⟩
  · rw [h1, cond_false] at hq
    refine pq_s hB 5 (pc' := 35) (L' := [(0, .long a0), (2, .int a1)]) (st' := [.long (((a0).toInt32).toInt8.toInt32).toInt64]) (I' := I) (J' := J) (by with_unfolding_all rfl) ?_
    subst hq
    exact pq_2 (v := some (.long ((((a0).toInt32).toInt8.toInt32).toInt64))) rfl rfl (by with_unfolding_all rfl) ⟨rfl, rfl, rfl⟩
-- LPModel.copyWay, the loop at 75, to [136]
def f335_185_l75 (N : Nat) : Nat → tI → tJ → Int32 → Int32 → Int32 → Int32 → Option (Int32 × Int32 × Int32 × Int32 × tI × tJ)
  | 0, _, _, _, _, _, _ => none
  | k + 1, I, J, x1, x2, x3, x4 =>
    bif xcmp .ge x4 x3 then some (x1, x2, x3, x4, I, J) else (match f261_185 I J x1 with | (v13, I13, J13) => bif xcmp .eq v13 0 then (match f210 I13 J13 (-1) (I13 188 (x2).toNatClampNeg) with | (v15, I15, J15) => (match f284_185 N I15 (tup J15 190 ((((60 * x2) + x4)).toNatClampNeg) v15) with | none => none | some (_, I16, J16) => f335_185_l75 N k I16 J16 x1 x2 x3 (x4 + 1))) else (match f260_185 I13 J13 x1 5 with | (v17, I17, J17) => (match f263 I17 J17 v17 with | (v18, I18, J18) => (match f210 I18 J18 ((v18).toInt64) (I18 188 (x2).toNatClampNeg) with | (v19, I19, J19) => (match f284_185 N I19 (tup J19 190 ((((60 * x2) + x4)).toNatClampNeg) v19) with | none => none | some (_, I20, J20) => f335_185_l75 N k I20 J20 x1 x2 x3 (x4 + 1))))))
set_option maxRecDepth 100000 in
theorem f335_185_l75_pq {sc : List Int32} {B : xM} {N : Nat} {P : Option Value → tI → tJ → Prop} (hB : kB pT B) : ∀ (k : Nat), k ≤ N → ∀ (b m : Nat), b ≤ k → b ≤ m → ∀ {I : tI} {J : tJ} {x1 : Int32} {x2 : Int32} {x3 : Int32} {x4 : Int32} {Y : Option (Int32 × Int32 × Int32 × Int32 × tI × tJ)}, f335_185_l75 N k I J x1 x2 x3 x4 = Y → (∀ {y1 : Int32} {y2 : Int32} {y3 : Int32} {y4 : Int32} {I1 : tI} {J1 : tJ}, Y = some (y1, y2, y3, y4, I1, J1) → pq sc B m (xt_335, 5, 1) 136 [(0, .ref 185), (1, .int y1), (2, .int y2), (3, .int y3), (4, .int y4)] [] I1 J1 P) → pq sc B b (xt_335, 5, 1) 75 [(0, .ref 185), (1, .int x1), (2, .int x2), (3, .int x3), (4, .int x4)] [] I J P
  | 0, _, b, _, hb, _, _, _, _, _, _, _, _, _, _ => by
    have e : b = 0 := by omega
    subst e
    exact pq_zero
  | _ + 1, _, 0, _, _, _, _, _, _, _, _, _, _, _, _ => pq_zero
  | k + 1, hk, b + 1, m, hb, hm, I, J, x1, x2, x3, x4, Y, hq, hx0 => by
    unfold f335_185_l75 at hq
    have hle : b ≤ N := by omega
    refine pq_s1 hB 1 (pc' := 78) (L' := [(0, .ref 185), (1, .int x1), (2, .int x2), (3, .int x3), (4, .int x4)]) (st' := [.int x3, .int x4]) (I' := I) (J' := J) (by with_unfolding_all rfl) ?_
    refine pq_icn hB rfl (fun h12 => ?_) (fun h12 => ?_)
    · rw [h12, cond_true] at hq
      exact pq_le (by omega) (hx0 hq.symm)
    · rw [h12, cond_false] at hq
      refine pq_s hB 9 (pc' := 94) (L' := [(0, .ref 185), (1, .int x1), (2, .int x2), (3, .int x3), (4, .int x4)]) (st' := [.int x1, .ref 185, .int ((60 * x2) + x4), .ref 190]) (I' := I) (J' := J) (by with_unfolding_all rfl) ?_
      generalize hc13 : f261_185 I J x1 = q13 at hq
      obtain ⟨v13, _, _⟩ := q13
      dsimp only at hq
      refine pq_1 rfl rfl rfl rfl (f261_185_pq hB hc13) ?_
      rintro _ I13 J13 ⟨rfl, rfl, rfl⟩
      refine pq_ifn hB rfl (fun h14 => ?_) (fun h14 => ?_)
      · rw [h14, cond_true] at hq
        refine pq_s hB 5 (pc' := 122) (L' := [(0, .ref 185), (1, .int x1), (2, .int x2), (3, .int x3), (4, .int x4)]) (st' := [.int (I13 188 (x2).toNatClampNeg), .long (-1), .int ((60 * x2) + x4), .ref 190]) (I' := I13) (J' := J13) (by with_unfolding_all rfl) ?_
        generalize hc15 : f210 I13 J13 (-1) (I13 188 (x2).toNatClampNeg) = q15 at hq
        obtain ⟨v15, _, _⟩ := q15
        dsimp only at hq
        refine pq_1 rfl rfl rfl rfl (f210_pq hB hc15) ?_
        rintro _ I15 J15 ⟨rfl, rfl, rfl⟩
        refine pq_s hB 2 (pc' := 127) (L' := [(0, .ref 185), (1, .int x1), (2, .int x2), (3, .int x3), (4, .int x4)]) (st' := [.ref 185]) (I' := I15) (J' := (tup J15 190 ((((60 * x2) + x4)).toNatClampNeg) v15)) (by with_unfolding_all rfl) ?_
        refine pq_1 rfl rfl rfl rfl (pq_le hle (f284_185_pq hB rfl)) ?_
        rintro _ I16 J16 ⟨rfl, hc16⟩
        rw [hc16] at hq
        dsimp only at hq
        refine pq_s hB 2 (pc' := 75) (L' := [(4, .int (x4 + 1)), (0, .ref 185), (1, .int x1), (2, .int x2), (3, .int x3)]) (st' := []) (I' := I16) (J' := J16) (by with_unfolding_all rfl) ?_
        refine pq_perm (L := [(0, .ref 185), (1, .int x1), (2, .int x2), (3, .int x3), (4, .int (x4 + 1))]) (leqn_of ⟨rfl, rfl, rfl, rfl, rfl, trivial⟩ ⟨rfl, rfl, rfl, rfl, rfl, trivial⟩ ⟨rfl, rfl, rfl, rfl, rfl, trivial⟩) ?_
        exact f335_185_l75_pq hB k (by omega) b m (by omega) (by omega) hq hx0
      · rw [h14, cond_false] at hq
        refine pq_s hB 3 (pc' := 103) (L' := [(0, .ref 185), (1, .int x1), (2, .int x2), (3, .int x3), (4, .int x4)]) (st' := [.int 5, .int x1, .ref 185, .int ((60 * x2) + x4), .ref 190]) (I' := I13) (J' := J13) (by with_unfolding_all rfl) ?_
        generalize hc17 : f260_185 I13 J13 x1 5 = q17 at hq
        obtain ⟨v17, _, _⟩ := q17
        dsimp only at hq
        refine pq_1 rfl rfl rfl rfl (f260_185_pq hB hc17) ?_
        rintro _ I17 J17 ⟨rfl, rfl, rfl⟩
        generalize hc18 : f263 I17 J17 v17 = q18 at hq
        obtain ⟨v18, _, _⟩ := q18
        dsimp only at hq
        refine pq_1 rfl rfl rfl rfl (f263_pq hB hc18) ?_
        rintro _ I18 J18 ⟨rfl, rfl, rfl⟩
        refine pq_s hB 6 (pc' := 122) (L' := [(0, .ref 185), (1, .int x1), (2, .int x2), (3, .int x3), (4, .int x4)]) (st' := [.int (I18 188 (x2).toNatClampNeg), .long (v18).toInt64, .int ((60 * x2) + x4), .ref 190]) (I' := I18) (J' := J18) (by with_unfolding_all rfl) ?_
        generalize hc19 : f210 I18 J18 ((v18).toInt64) (I18 188 (x2).toNatClampNeg) = q19 at hq
        obtain ⟨v19, _, _⟩ := q19
        dsimp only at hq
        refine pq_1 rfl rfl rfl rfl (f210_pq hB hc19) ?_
        rintro _ I19 J19 ⟨rfl, rfl, rfl⟩
        refine pq_s hB 2 (pc' := 127) (L' := [(0, .ref 185), (1, .int x1), (2, .int x2), (3, .int x3), (4, .int x4)]) (st' := [.ref 185]) (I' := I19) (J' := (tup J19 190 ((((60 * x2) + x4)).toNatClampNeg) v19)) (by with_unfolding_all rfl) ?_
        refine pq_1 rfl rfl rfl rfl (pq_le hle (f284_185_pq hB rfl)) ?_
        rintro _ I20 J20 ⟨rfl, hc20⟩
        rw [hc20] at hq
        dsimp only at hq
        refine pq_s hB 2 (pc' := 75) (L' := [(4, .int (x4 + 1)), (0, .ref 185), (1, .int x1), (2, .int x2), (3, .int x3)]) (st' := []) (I' := I20) (J' := J20) (by with_unfolding_all rfl) ?_
        refine pq_perm (L := [(0, .ref 185), (1, .int x1), (2, .int x2), (3, .int x3), (4, .int (x4 + 1))]) (leqn_of ⟨rfl, rfl, rfl, rfl, rfl, trivial⟩ ⟨rfl, rfl, rfl, rfl, rfl, trivial⟩ ⟨rfl, rfl, rfl, rfl, rfl, trivial⟩) ?_
        exact f335_185_l75_pq hB k (by omega) b m (by omega) (by omega) hq hx0
-- LPModel.copyWay
def f335_185 (N : Nat) (I : tI) (J : tJ) (a0 : Int32) (a1 : Int32) (a2 : Int32) : Option (Int32 × tI × tJ) :=
  (match f254_185 I J a0 with | (v1, I1, J1) => bif xcmp .eq v1 0 then (match f205_185 I1 J1 1 with | (v3, I3, J3) => some (v3, I3, J3)) else (match f209 I1 J1 a1 with | (v4, I4, J4) => bif xcmp .eq v4 0 then (match f205_185 I4 J4 1 with | (v6, I6, J6) => some (v6, I6, J6)) else (match f216 I4 J4 ((a2).toInt64) 1 20 with | (v7, I7, J7) => bif xcmp .ne v7 0 then (bif xcmp .ne (I7 189 (a1).toNatClampNeg) (-1) then (bif xcmp .ge (I7 189 (a1).toNatClampNeg) a2 then (match f296_185 N I7 J7 3720 with | none => none | some (_, I11, J11) => (match f335_185_l75 N N I11 J11 a0 a1 a2 0 with | none => none | some (y12_1, y12_2, y12_3, y12_4, I12, J12) => (match f297_185 N I12 J12 3720 with | none => none | some (_, I13, J13) => (match f206_185 I13 J13 y12_3 with | (v14, I14, J14) => some (v14, I14, J14))))) else (match f205_185 I7 J7 3 with | (v15, I15, J15) => some (v15, I15, J15))) else (match f205_185 I7 J7 2 with | (v16, I16, J16) => some (v16, I16, J16))) else (match f205_185 I7 J7 1 with | (v17, I17, J17) => some (v17, I17, J17)))))
set_option maxRecDepth 100000 in
theorem f335_185_pq {sc : List Int32} {B : xM} {N : Nat} {I : tI} {J : tJ} {a0 : Int32} {a1 : Int32} {a2 : Int32} (hB : kB pT B) : ∀ {X : Option (Int32 × tI × tJ)}, f335_185 N I J a0 a1 a2 = X → pq sc B N (xt_335, 5, 1) 0 [(0, .ref 185), (1, .int a0), (2, .int a1), (3, .int a2)] [] I J (fun v I1 J1 => ∃ a, v = some (.int a) ∧ X = some (a, I1, J1)) := by
  intro X hq
  unfold f335_185 at hq
  have hle : N ≤ N := Nat.le_refl N
  refine pq_s hB 2 (pc' := 2) (L' := [(0, .ref 185), (1, .int a0), (2, .int a1), (3, .int a2)]) (st' := [.int a0, .ref 185]) (I' := I) (J' := J) (by with_unfolding_all rfl) ?_
  generalize hc1 : f254_185 I J a0 = q1 at hq
  obtain ⟨v1, _, _⟩ := q1
  dsimp only at hq
  refine pq_1 rfl rfl rfl rfl (f254_185_pq hB hc1) ?_
  rintro _ I1 J1 ⟨rfl, rfl, rfl⟩
  refine pq_ifn hB rfl (fun h2 => ?_) (fun h2 => ?_)
  · rw [h2, cond_true] at hq
    refine pq_s hB 2 (pc' := 29) (L' := [(0, .ref 185), (1, .int a0), (2, .int a1), (3, .int a2)]) (st' := [.int 1, .ref 185]) (I' := I1) (J' := J1) (by with_unfolding_all rfl) ?_
    generalize hc3 : f205_185 I1 J1 1 = q3 at hq
    obtain ⟨v3, _, _⟩ := q3
    dsimp only at hq
    refine pq_1 rfl rfl rfl rfl (f205_185_pq hB hc3) ?_
    rintro _ I3 J3 ⟨rfl, rfl, rfl⟩
    subst hq
    exact pq_2i (x := v3) rfl ⟨_, rfl, rfl⟩
  · rw [h2, cond_false] at hq
    refine pq_s hB 1 (pc' := 9) (L' := [(0, .ref 185), (1, .int a0), (2, .int a1), (3, .int a2)]) (st' := [.int a1]) (I' := I1) (J' := J1) (by with_unfolding_all rfl) ?_
    generalize hc4 : f209 I1 J1 a1 = q4 at hq
    obtain ⟨v4, _, _⟩ := q4
    dsimp only at hq
    refine pq_1 rfl rfl rfl rfl (f209_pq hB hc4) ?_
    rintro _ I4 J4 ⟨rfl, rfl, rfl⟩
    refine pq_ifn hB rfl (fun h5 => ?_) (fun h5 => ?_)
    · rw [h5, cond_true] at hq
      refine pq_s hB 2 (pc' := 29) (L' := [(0, .ref 185), (1, .int a0), (2, .int a1), (3, .int a2)]) (st' := [.int 1, .ref 185]) (I' := I4) (J' := J4) (by with_unfolding_all rfl) ?_
      generalize hc6 : f205_185 I4 J4 1 = q6 at hq
      obtain ⟨v6, _, _⟩ := q6
      dsimp only at hq
      refine pq_1 rfl rfl rfl rfl (f205_185_pq hB hc6) ?_
      rintro _ I6 J6 ⟨rfl, rfl, rfl⟩
      subst hq
      exact pq_2i (x := v6) rfl ⟨_, rfl, rfl⟩
    · rw [h5, cond_false] at hq
      refine pq_s hB 4 (pc' := 21) (L' := [(0, .ref 185), (1, .int a0), (2, .int a1), (3, .int a2)]) (st' := [.long 20, .long 1, .long (a2).toInt64]) (I' := I4) (J' := J4) (by with_unfolding_all rfl) ?_
      generalize hc7 : f216 I4 J4 ((a2).toInt64) 1 20 = q7 at hq
      obtain ⟨v7, _, _⟩ := q7
      dsimp only at hq
      refine pq_1 rfl rfl rfl rfl (f216_pq hB hc7) ?_
      rintro _ I7 J7 ⟨rfl, rfl, rfl⟩
      refine pq_ifn hB rfl (fun h8 => ?_) (fun h8 => ?_)
      · rw [h8, cond_true] at hq
        refine pq_s hB 5 (pc' := 40) (L' := [(0, .ref 185), (1, .int a0), (2, .int a1), (3, .int a2)]) (st' := [.int (-1), .int (I7 189 (a1).toNatClampNeg)]) (I' := I7) (J' := J7) (by with_unfolding_all rfl) ?_
        refine pq_icn hB rfl (fun h9 => ?_) (fun h9 => ?_)
        · rw [h9, cond_true] at hq
          refine pq_s hB 5 (pc' := 56) (L' := [(0, .ref 185), (1, .int a0), (2, .int a1), (3, .int a2)]) (st' := [.int a2, .int (I7 189 (a1).toNatClampNeg)]) (I' := I7) (J' := J7) (by with_unfolding_all rfl) ?_
          refine pq_icn hB rfl (fun h10 => ?_) (fun h10 => ?_)
          · rw [h10, cond_true] at hq
            refine pq_s hB 2 (pc' := 69) (L' := [(0, .ref 185), (1, .int a0), (2, .int a1), (3, .int a2)]) (st' := [.int 3720, .ref 185]) (I' := I7) (J' := J7) (by with_unfolding_all rfl) ?_
            refine pq_1 rfl rfl rfl rfl (pq_le hle (f296_185_pq hB rfl)) ?_
            rintro _ I11 J11 ⟨rfl, hc11⟩
            rw [hc11] at hq
            dsimp only at hq
            refine pq_s hB 2 (pc' := 75) (L' := [(4, .int 0), (0, .ref 185), (1, .int a0), (2, .int a1), (3, .int a2)]) (st' := []) (I' := I11) (J' := J11) (by with_unfolding_all rfl) ?_
            refine pq_perm (L := [(0, .ref 185), (1, .int a0), (2, .int a1), (3, .int a2), (4, .int 0)]) (leqn_of ⟨rfl, rfl, rfl, rfl, rfl, trivial⟩ ⟨rfl, rfl, rfl, rfl, rfl, trivial⟩ ⟨rfl, rfl, rfl, rfl, rfl, trivial⟩) ?_
            refine f335_185_l75_pq hB N (Nat.le_refl N) N N hle (Nat.le_refl N) rfl ?_
            intro y12_1 y12_2 y12_3 y12_4 I12 J12 hc12
            rw [hc12] at hq
            dsimp only at hq
            refine pq_s hB 2 (pc' := 140) (L' := [(0, .ref 185), (1, .int y12_1), (2, .int y12_2), (3, .int y12_3), (4, .int y12_4)]) (st' := [.int 3720, .ref 185]) (I' := I12) (J' := J12) (by with_unfolding_all rfl) ?_
            refine pq_1 rfl rfl rfl rfl (pq_le hle (f297_185_pq hB rfl)) ?_
            rintro _ I13 J13 ⟨rfl, hc13⟩
            rw [hc13] at hq
            dsimp only at hq
            refine pq_s hB 2 (pc' := 145) (L' := [(0, .ref 185), (1, .int y12_1), (2, .int y12_2), (3, .int y12_3), (4, .int y12_4)]) (st' := [.int y12_3, .ref 185]) (I' := I13) (J' := J13) (by with_unfolding_all rfl) ?_
            generalize hc14 : f206_185 I13 J13 y12_3 = q14 at hq
            obtain ⟨v14, _, _⟩ := q14
            dsimp only at hq
            refine pq_1 rfl rfl rfl rfl (f206_185_pq hB hc14) ?_
            rintro _ I14 J14 ⟨rfl, rfl, rfl⟩
            subst hq
            exact pq_2i (x := v14) rfl ⟨_, rfl, rfl⟩
          · rw [h10, cond_false] at hq
            refine pq_s hB 2 (pc' := 61) (L' := [(0, .ref 185), (1, .int a0), (2, .int a1), (3, .int a2)]) (st' := [.int 3, .ref 185]) (I' := I7) (J' := J7) (by with_unfolding_all rfl) ?_
            generalize hc15 : f205_185 I7 J7 3 = q15 at hq
            obtain ⟨v15, _, _⟩ := q15
            dsimp only at hq
            refine pq_1 rfl rfl rfl rfl (f205_185_pq hB hc15) ?_
            rintro _ I15 J15 ⟨rfl, rfl, rfl⟩
            subst hq
            exact pq_2i (x := v15) rfl ⟨_, rfl, rfl⟩
        · rw [h9, cond_false] at hq
          refine pq_s hB 2 (pc' := 45) (L' := [(0, .ref 185), (1, .int a0), (2, .int a1), (3, .int a2)]) (st' := [.int 2, .ref 185]) (I' := I7) (J' := J7) (by with_unfolding_all rfl) ?_
          generalize hc16 : f205_185 I7 J7 2 = q16 at hq
          obtain ⟨v16, _, _⟩ := q16
          dsimp only at hq
          refine pq_1 rfl rfl rfl rfl (f205_185_pq hB hc16) ?_
          rintro _ I16 J16 ⟨rfl, rfl, rfl⟩
          subst hq
          exact pq_2i (x := v16) rfl ⟨_, rfl, rfl⟩
      · rw [h8, cond_false] at hq
        refine pq_s hB 2 (pc' := 29) (L' := [(0, .ref 185), (1, .int a0), (2, .int a1), (3, .int a2)]) (st' := [.int 1, .ref 185]) (I' := I7) (J' := J7) (by with_unfolding_all rfl) ?_
        generalize hc17 : f205_185 I7 J7 1 = q17 at hq
        obtain ⟨v17, _, _⟩ := q17
        dsimp only at hq
        refine pq_1 rfl rfl rfl rfl (f205_185_pq hB hc17) ?_
        rintro _ I17 J17 ⟨rfl, rfl, rfl⟩
        subst hq
        exact pq_2i (x := v17) rfl ⟨_, rfl, rfl⟩
-- LPModel.tellsBy, the loop at 6, to [31]
def f208_185_l6 (N : Nat) : Nat → tI → tJ → Int64 → Int64 → Int64 → Int64 → Option (Int64 × Int64 × Int64 × Int64 × tI × tJ)
  | 0, _, _, _, _, _, _ => none
  | k + 1, I, J, x1, x3, x5, x7 =>
    bif xcmp .eq (lg_cmp x7 0) 0 then some (x1, x3, x5, x7, I, J) else f208_185_l6 N k I J x1 x3 x7 (x5 - x5 / x7 * x7)
set_option maxRecDepth 100000 in
theorem f208_185_l6_pq {sc : List Int32} {B : xM} {N : Nat} {P : Option Value → tI → tJ → Prop} (hB : kB pT B) : ∀ (k : Nat), k ≤ N → ∀ (b m : Nat), b ≤ k → b ≤ m → ∀ {I : tI} {J : tJ} {x1 : Int64} {x3 : Int64} {x5 : Int64} {x7 : Int64} {Y : Option (Int64 × Int64 × Int64 × Int64 × tI × tJ)}, f208_185_l6 N k I J x1 x3 x5 x7 = Y → (∀ {y1 : Int64} {y3 : Int64} {y5 : Int64} {y7 : Int64} {I1 : tI} {J1 : tJ}, Y = some (y1, y3, y5, y7, I1, J1) → pq sc B m (xt_208, 11, 3) 31 [(0, .ref 185), (1, .long y1), (3, .long y3), (5, .long y5), (7, .long y7)] [] I1 J1 P) → pq sc B b (xt_208, 11, 3) 6 [(0, .ref 185), (1, .long x1), (3, .long x3), (5, .long x5), (7, .long x7)] [] I J P
  | 0, _, b, _, hb, _, _, _, _, _, _, _, _, _, _ => by
    have e : b = 0 := by omega
    subst e
    exact pq_zero
  | _ + 1, _, 0, _, _, _, _, _, _, _, _, _, _, _, _ => pq_zero
  | k + 1, hk, b + 1, m, hb, hm, I, J, x1, x3, x5, x7, Y, hq, hx0 => by
    unfold f208_185_l6 at hq
    have hle : b ≤ N := by omega
    refine pq_s1 hB 2 (pc' := 10) (L' := [(0, .ref 185), (1, .long x1), (3, .long x3), (5, .long x5), (7, .long x7)]) (st' := [.int (lg_cmp x7 0)]) (I' := I) (J' := J) (by with_unfolding_all rfl) ?_
    refine pq_ifn hB rfl (fun h1 => ?_) (fun h1 => ?_)
    · rw [h1, cond_true] at hq
      exact pq_le (by omega) (hx0 hq.symm)
    · rw [h1, cond_false] at hq
      refine pq_s hB 2 (pc' := 17) (L' := [(0, .ref 185), (1, .long x1), (3, .long x3), (5, .long x5), (7, .long x7)]) (st' := [.long x7, .long x5]) (I' := I) (J' := J) (by with_unfolding_all rfl) ?_
      refine pq_lrem hB rfl (fun _ => ?_)
      refine pq_s hB 6 (pc' := 6) (L' := [(7, .long (x5 - x5 / x7 * x7)), (5, .long x7), (9, .long (x5 - x5 / x7 * x7)), (0, .ref 185), (1, .long x1), (3, .long x3)]) (st' := []) (I' := I) (J' := J) (by with_unfolding_all rfl) ?_
      refine pq_perm (L := [(0, .ref 185), (1, .long x1), (3, .long x3), (5, .long x7), (7, .long (x5 - x5 / x7 * x7))]) (leqn_of ⟨rfl, rfl, rfl, rfl, rfl, trivial⟩ ⟨rfl, rfl, rfl, rfl, rfl, trivial⟩ ⟨rfl, rfl, rfl, rfl, rfl, rfl, trivial⟩) ?_
      exact f208_185_l6_pq hB k (by omega) b m (by omega) (by omega) hq hx0
-- LPModel.is
def f204_185 (I : tI) (J : tJ) (a0 : Int32) : Int32 × tI × tJ :=
  bif xcmp .ne a0 0 then (0, (tup I 185 2 a0), J) else (1, (tup I 185 2 a0), J)
set_option maxRecDepth 100000 in
theorem f204_185_pq {sc : List Int32} {B : xM} {n : Nat} {I : tI} {J : tJ} {a0 : Int32} (hB : kB pT B) : ∀ {q : Int32 × tI × tJ}, f204_185 I J a0 = q → pq sc B n (xt_204, 2, 3) 0 [(0, .ref 185), (1, .int a0)] [] I J (fun v I1 J1 => v = some (.int q.1) ∧ I1 = q.2.1 ∧ J1 = q.2.2) := by
  intro q hq
  unfold f204_185 at hq
  refine pq_s hB 4 (pc' := 6) (L' := [(0, .ref 185), (1, .int a0)]) (st' := [.int a0]) (I' := (tup I 185 2 a0)) (J' := J) (by with_unfolding_all rfl) ?_
  refine pq_ifn hB rfl (fun h1 => ?_) (fun h1 => ?_)
  · rw [h1, cond_true] at hq
    refine pq_s hB 1 (pc' := 14) (L' := [(0, .ref 185), (1, .int a0)]) (st' := [.int 0]) (I' := (tup I 185 2 a0)) (J' := J) (by with_unfolding_all rfl) ?_
    subst hq
    exact pq_2i (x := 0) rfl ⟨rfl, rfl, rfl⟩
  · rw [h1, cond_false] at hq
    refine pq_s hB 2 (pc' := 14) (L' := [(0, .ref 185), (1, .int a0)]) (st' := [.int 1]) (I' := (tup I 185 2 a0)) (J' := J) (by with_unfolding_all rfl) ?_
    subst hq
    exact pq_2i (x := 1) rfl ⟨rfl, rfl, rfl⟩
-- LPModel.tellsBy
def f208_185 (N : Nat) (I : tI) (J : tJ) (a0 : Int64) (a1 : Int64) : Option (Int32 × tI × tJ) :=
  (match f208_185_l6 N N I J a0 a1 a0 a1 with | none => none | some (y1_1, y1_3, y1_5, y1_7, I1, J1) => (match f204_185 I1 (tup (tup J1 185 3 (y1_1 / y1_5)) 185 4 (y1_3 / y1_5)) 0 with | (v2, I2, J2) => some (v2, I2, J2)))
set_option maxRecDepth 100000 in
theorem f208_185_pq {sc : List Int32} {B : xM} {N : Nat} {I : tI} {J : tJ} {a0 : Int64} {a1 : Int64} (hB : kB pT B) : ∀ {X : Option (Int32 × tI × tJ)}, f208_185 N I J a0 a1 = X → pq sc B N (xt_208, 11, 3) 0 [(0, .ref 185), (1, .long a0), (3, .long a1)] [] I J (fun v I1 J1 => ∃ a, v = some (.int a) ∧ X = some (a, I1, J1)) := by
  intro X hq
  unfold f208_185 at hq
  have hle : N ≤ N := Nat.le_refl N
  refine pq_s hB 4 (pc' := 6) (L' := [(7, .long a1), (5, .long a0), (0, .ref 185), (1, .long a0), (3, .long a1)]) (st' := []) (I' := I) (J' := J) (by with_unfolding_all rfl) ?_
  refine pq_perm (L := [(0, .ref 185), (1, .long a0), (3, .long a1), (5, .long a0), (7, .long a1)]) (leqn_of ⟨rfl, rfl, rfl, rfl, rfl, trivial⟩ ⟨rfl, rfl, rfl, rfl, rfl, trivial⟩ ⟨rfl, rfl, rfl, rfl, rfl, trivial⟩) ?_
  refine f208_185_l6_pq hB N (Nat.le_refl N) N N hle (Nat.le_refl N) rfl ?_
  intro y1_1 y1_3 y1_5 y1_7 I1 J1 hc1
  rw [hc1] at hq
  dsimp only at hq
  refine pq_s hB 3 (pc' := 35) (L' := [(0, .ref 185), (1, .long y1_1), (3, .long y1_3), (5, .long y1_5), (7, .long y1_7)]) (st' := [.long y1_5, .long y1_1, .ref 185]) (I' := I1) (J' := J1) (by with_unfolding_all rfl) ?_
  refine pq_ldiv hB rfl (fun _ => ?_)
  refine pq_s hB 4 (pc' := 43) (L' := [(0, .ref 185), (1, .long y1_1), (3, .long y1_3), (5, .long y1_5), (7, .long y1_7)]) (st' := [.long y1_5, .long y1_3, .ref 185]) (I' := I1) (J' := (tup J1 185 3 (y1_1 / y1_5))) (by with_unfolding_all rfl) ?_
  refine pq_ldiv hB rfl (fun _ => ?_)
  refine pq_s hB 3 (pc' := 49) (L' := [(0, .ref 185), (1, .long y1_1), (3, .long y1_3), (5, .long y1_5), (7, .long y1_7)]) (st' := [.int 0, .ref 185]) (I' := I1) (J' := (tup (tup J1 185 3 (y1_1 / y1_5)) 185 4 (y1_3 / y1_5))) (by with_unfolding_all rfl) ?_
  generalize hc2 : f204_185 I1 (tup (tup J1 185 3 (y1_1 / y1_5)) 185 4 (y1_3 / y1_5)) 0 = q2 at hq
  obtain ⟨v2, _, _⟩ := q2
  dsimp only at hq
  refine pq_1 rfl rfl rfl rfl (f204_185_pq hB hc2) ?_
  rintro _ I2 J2 ⟨rfl, rfl, rfl⟩
  subst hq
  exact pq_2i (x := v2) rfl ⟨_, rfl, rfl⟩
-- LP.reject
def f124_0 (I : tI) (J : tJ) (a0 : Int32) : Int32 × tI × tJ :=
  (0, (tup I 0 5 a0), J)
set_option maxRecDepth 100000 in
theorem f124_0_pq {sc : List Int32} {B : xM} {n : Nat} {I : tI} {J : tJ} {a0 : Int32} (hB : kB pT B) : ∀ {q : Int32 × tI × tJ}, f124_0 I J a0 = q → pq sc B n (xt_124, 2, 3) 0 [(0, .ref 0), (1, .int a0)] [] I J (fun v I1 J1 => v = some (.int q.1) ∧ I1 = q.2.1 ∧ J1 = q.2.2) := by
  intro q hq
  unfold f124_0 at hq
  refine pq_s hB 4 (pc' := 6) (L' := [(0, .ref 0), (1, .int a0)]) (st' := [.int 0]) (I' := (tup I 0 5 a0)) (J' := J) (by with_unfolding_all rfl) ?_
  subst hq
  exact pq_2i (x := 0) rfl ⟨rfl, rfl, rfl⟩
-- LP.accept
def f123_0 (I : tI) (J : tJ) : Int32 × tI × tJ :=
  (1, (tup I 0 5 0), J)
set_option maxRecDepth 100000 in
theorem f123_0_pq {sc : List Int32} {B : xM} {n : Nat} {I : tI} {J : tJ} (hB : kB pT B) : ∀ {q : Int32 × tI × tJ}, f123_0 I J = q → pq sc B n (xt_123, 1, 3) 0 [(0, .ref 0)] [] I J (fun v I1 J1 => v = some (.int q.1) ∧ I1 = q.2.1 ∧ J1 = q.2.2) := by
  intro q hq
  unfold f123_0 at hq
  refine pq_s hB 4 (pc' := 6) (L' := [(0, .ref 0)]) (st' := [.int 1]) (I' := (tup I 0 5 0)) (J' := J) (by with_unfolding_all rfl) ?_
  subst hq
  exact pq_2i (x := 1) rfl ⟨rfl, rfl, rfl⟩
-- LP.price
def f161_0 (I : tI) (J : tJ) (a0 : Int32) (a1 : Int32) : Int32 × tI × tJ :=
  (match f127 I J a0 0 99 with | (v1, I1, J1) => bif xcmp .eq v1 0 then (match f124_0 I1 J1 1 with | (v3, I3, J3) => (v3, I3, J3)) else (match f127 I1 J1 a1 0 20 with | (v4, I4, J4) => bif xcmp .ne v4 0 then (match f123_0 (tup (tup I4 10 4 a0) 10 5 a1) J4 with | (v6, I6, J6) => (v6, I6, J6)) else (match f124_0 I4 J4 1 with | (v7, I7, J7) => (v7, I7, J7))))
set_option maxRecDepth 100000 in
theorem f161_0_pq {sc : List Int32} {B : xM} {n : Nat} {I : tI} {J : tJ} {a0 : Int32} {a1 : Int32} (hB : kB pT B) : ∀ {q : Int32 × tI × tJ}, f161_0 I J a0 a1 = q → pq sc B n (xt_161, 3, 3) 0 [(0, .ref 0), (1, .int a0), (2, .int a1)] [] I J (fun v I1 J1 => v = some (.int q.1) ∧ I1 = q.2.1 ∧ J1 = q.2.2) := by
  intro q hq
  unfold f161_0 at hq
  refine pq_s hB 3 (pc' := 4) (L' := [(0, .ref 0), (1, .int a0), (2, .int a1)]) (st' := [.int 99, .int 0, .int a0]) (I' := I) (J' := J) (by with_unfolding_all rfl) ?_
  generalize hc1 : f127 I J a0 0 99 = q1 at hq
  obtain ⟨v1, _, _⟩ := q1
  dsimp only at hq
  refine pq_1 rfl rfl rfl rfl (f127_pq hB hc1) ?_
  rintro _ I1 J1 ⟨rfl, rfl, rfl⟩
  refine pq_ifn hB rfl (fun h2 => ?_) (fun h2 => ?_)
  · rw [h2, cond_true] at hq
    refine pq_s hB 2 (pc' := 22) (L' := [(0, .ref 0), (1, .int a0), (2, .int a1)]) (st' := [.int 1, .ref 0]) (I' := I1) (J' := J1) (by with_unfolding_all rfl) ?_
    generalize hc3 : f124_0 I1 J1 1 = q3 at hq
    obtain ⟨v3, _, _⟩ := q3
    dsimp only at hq
    refine pq_1 rfl rfl rfl rfl (f124_0_pq hB hc3) ?_
    rintro _ I3 J3 ⟨rfl, rfl, rfl⟩
    subst hq
    exact pq_2i (x := v3) rfl ⟨rfl, rfl, rfl⟩
  · rw [h2, cond_false] at hq
    refine pq_s hB 3 (pc' := 14) (L' := [(0, .ref 0), (1, .int a0), (2, .int a1)]) (st' := [.int 20, .int 0, .int a1]) (I' := I1) (J' := J1) (by with_unfolding_all rfl) ?_
    generalize hc4 : f127 I1 J1 a1 0 20 = q4 at hq
    obtain ⟨v4, _, _⟩ := q4
    dsimp only at hq
    refine pq_1 rfl rfl rfl rfl (f127_pq hB hc4) ?_
    rintro _ I4 J4 ⟨rfl, rfl, rfl⟩
    refine pq_ifn hB rfl (fun h5 => ?_) (fun h5 => ?_)
    · rw [h5, cond_true] at hq
      refine pq_s hB 9 (pc' := 43) (L' := [(0, .ref 0), (1, .int a0), (2, .int a1)]) (st' := [.ref 0]) (I' := (tup (tup I4 10 4 a0) 10 5 a1)) (J' := J4) (by with_unfolding_all rfl) ?_
      generalize hc6 : f123_0 (tup (tup I4 10 4 a0) 10 5 a1) J4 = q6 at hq
      obtain ⟨v6, _, _⟩ := q6
      dsimp only at hq
      refine pq_1 rfl rfl rfl rfl (f123_0_pq hB hc6) ?_
      rintro _ I6 J6 ⟨rfl, rfl, rfl⟩
      subst hq
      exact pq_2i (x := v6) rfl ⟨rfl, rfl, rfl⟩
    · rw [h5, cond_false] at hq
      refine pq_s hB 2 (pc' := 22) (L' := [(0, .ref 0), (1, .int a0), (2, .int a1)]) (st' := [.int 1, .ref 0]) (I' := I4) (J' := J4) (by with_unfolding_all rfl) ?_
      generalize hc7 : f124_0 I4 J4 1 = q7 at hq
      obtain ⟨v7, _, _⟩ := q7
      dsimp only at hq
      refine pq_1 rfl rfl rfl rfl (f124_0_pq hB hc7) ?_
      rintro _ I7 J7 ⟨rfl, rfl, rfl⟩
      subst hq
      exact pq_2i (x := v7) rfl ⟨rfl, rfl, rfl⟩
-- LP.isPerson
def f128_0 (I : tI) (J : tJ) (a0 : Int32) : Int32 × tI × tJ :=
  (match f127 I J a0 0 ((I 12 0) - 1) with | (v1, I1, J1) => (v1, I1, J1))
set_option maxRecDepth 100000 in
theorem f128_0_pq {sc : List Int32} {B : xM} {n : Nat} {I : tI} {J : tJ} {a0 : Int32} (hB : kB pT B) : ∀ {q : Int32 × tI × tJ}, f128_0 I J a0 = q → pq sc B n (xt_128, 2, 3) 0 [(0, .ref 0), (1, .int a0)] [] I J (fun v I1 J1 => v = some (.int q.1) ∧ I1 = q.2.1 ∧ J1 = q.2.2) := by
  intro q hq
  unfold f128_0 at hq
  refine pq_s hB 8 (pc' := 14) (L' := [(0, .ref 0), (1, .int a0)]) (st' := [.int ((I 12 0) - 1), .int 0, .int a0]) (I' := I) (J' := J) (by with_unfolding_all rfl) ?_
  generalize hc1 : f127 I J a0 0 ((I 12 0) - 1) = q1 at hq
  obtain ⟨v1, _, _⟩ := q1
  dsimp only at hq
  refine pq_1 rfl rfl rfl rfl (f127_pq hB hc1) ?_
  rintro _ I1 J1 ⟨rfl, rfl, rfl⟩
  subst hq
  exact pq_2i (x := v1) rfl ⟨rfl, rfl, rfl⟩
-- LP.teach
def f163_0 (I : tI) (J : tJ) (a0 : Int32) (a1 : Int32) (a2 : Int32) : Int32 × tI × tJ :=
  (match f128_0 I J a0 with | (v1, I1, J1) => bif xcmp .eq v1 0 then (match f124_0 I1 J1 1 with | (v3, I3, J3) => (v3, I3, J3)) else (match f127 I1 J1 a2 0 4 with | (v4, I4, J4) => bif xcmp .ne v4 0 then (match f127 I4 J4 a1 0 ((I4 17 (a0).toNatClampNeg) - 1) with | (v6, I6, J6) => bif xcmp .ne v6 0 then (match f123_0 (tup I6 18 ((((a0 * 8) + a1)).toNatClampNeg) a2) J6 with | (v8, I8, J8) => (v8, I8, J8)) else (match f124_0 I6 J6 1 with | (v9, I9, J9) => (v9, I9, J9))) else (match f124_0 I4 J4 1 with | (v10, I10, J10) => (v10, I10, J10))))
set_option maxRecDepth 100000 in
theorem f163_0_pq {sc : List Int32} {B : xM} {n : Nat} {I : tI} {J : tJ} {a0 : Int32} {a1 : Int32} {a2 : Int32} (hB : kB pT B) : ∀ {q : Int32 × tI × tJ}, f163_0 I J a0 a1 a2 = q → pq sc B n (xt_163, 4, 3) 0 [(0, .ref 0), (1, .int a0), (2, .int a1), (3, .int a2)] [] I J (fun v I1 J1 => v = some (.int q.1) ∧ I1 = q.2.1 ∧ J1 = q.2.2) := by
  intro q hq
  unfold f163_0 at hq
  refine pq_s hB 2 (pc' := 2) (L' := [(0, .ref 0), (1, .int a0), (2, .int a1), (3, .int a2)]) (st' := [.int a0, .ref 0]) (I' := I) (J' := J) (by with_unfolding_all rfl) ?_
  generalize hc1 : f128_0 I J a0 = q1 at hq
  obtain ⟨v1, _, _⟩ := q1
  dsimp only at hq
  refine pq_1 rfl rfl rfl rfl (f128_0_pq hB hc1) ?_
  rintro _ I1 J1 ⟨rfl, rfl, rfl⟩
  refine pq_ifn hB rfl (fun h2 => ?_) (fun h2 => ?_)
  · rw [h2, cond_true] at hq
    refine pq_s hB 2 (pc' := 19) (L' := [(0, .ref 0), (1, .int a0), (2, .int a1), (3, .int a2)]) (st' := [.int 1, .ref 0]) (I' := I1) (J' := J1) (by with_unfolding_all rfl) ?_
    generalize hc3 : f124_0 I1 J1 1 = q3 at hq
    obtain ⟨v3, _, _⟩ := q3
    dsimp only at hq
    refine pq_1 rfl rfl rfl rfl (f124_0_pq hB hc3) ?_
    rintro _ I3 J3 ⟨rfl, rfl, rfl⟩
    subst hq
    exact pq_2i (x := v3) rfl ⟨rfl, rfl, rfl⟩
  · rw [h2, cond_false] at hq
    refine pq_s hB 3 (pc' := 11) (L' := [(0, .ref 0), (1, .int a0), (2, .int a1), (3, .int a2)]) (st' := [.int 4, .int 0, .int a2]) (I' := I1) (J' := J1) (by with_unfolding_all rfl) ?_
    generalize hc4 : f127 I1 J1 a2 0 4 = q4 at hq
    obtain ⟨v4, _, _⟩ := q4
    dsimp only at hq
    refine pq_1 rfl rfl rfl rfl (f127_pq hB hc4) ?_
    rintro _ I4 J4 ⟨rfl, rfl, rfl⟩
    refine pq_ifn hB rfl (fun h5 => ?_) (fun h5 => ?_)
    · rw [h5, cond_true] at hq
      refine pq_s hB 10 (pc' := 39) (L' := [(0, .ref 0), (1, .int a0), (2, .int a1), (3, .int a2)]) (st' := [.int ((I4 17 (a0).toNatClampNeg) - 1), .int 0, .int a1]) (I' := I4) (J' := J4) (by with_unfolding_all rfl) ?_
      generalize hc6 : f127 I4 J4 a1 0 ((I4 17 (a0).toNatClampNeg) - 1) = q6 at hq
      obtain ⟨v6, _, _⟩ := q6
      dsimp only at hq
      refine pq_1 rfl rfl rfl rfl (f127_pq hB hc6) ?_
      rintro _ I6 J6 ⟨rfl, rfl, rfl⟩
      refine pq_ifn hB rfl (fun h7 => ?_) (fun h7 => ?_)
      · rw [h7, cond_true] at hq
        refine pq_s hB 12 (pc' := 70) (L' := [(0, .ref 0), (1, .int a0), (2, .int a1), (3, .int a2)]) (st' := [.ref 0]) (I' := (tup I6 18 ((((a0 * 8) + a1)).toNatClampNeg) a2)) (J' := J6) (by with_unfolding_all rfl) ?_
        generalize hc8 : f123_0 (tup I6 18 ((((a0 * 8) + a1)).toNatClampNeg) a2) J6 = q8 at hq
        obtain ⟨v8, _, _⟩ := q8
        dsimp only at hq
        refine pq_1 rfl rfl rfl rfl (f123_0_pq hB hc8) ?_
        rintro _ I8 J8 ⟨rfl, rfl, rfl⟩
        subst hq
        exact pq_2i (x := v8) rfl ⟨rfl, rfl, rfl⟩
      · rw [h7, cond_false] at hq
        refine pq_s hB 2 (pc' := 47) (L' := [(0, .ref 0), (1, .int a0), (2, .int a1), (3, .int a2)]) (st' := [.int 1, .ref 0]) (I' := I6) (J' := J6) (by with_unfolding_all rfl) ?_
        generalize hc9 : f124_0 I6 J6 1 = q9 at hq
        obtain ⟨v9, _, _⟩ := q9
        dsimp only at hq
        refine pq_1 rfl rfl rfl rfl (f124_0_pq hB hc9) ?_
        rintro _ I9 J9 ⟨rfl, rfl, rfl⟩
        subst hq
        exact pq_2i (x := v9) rfl ⟨rfl, rfl, rfl⟩
    · rw [h5, cond_false] at hq
      refine pq_s hB 2 (pc' := 19) (L' := [(0, .ref 0), (1, .int a0), (2, .int a1), (3, .int a2)]) (st' := [.int 1, .ref 0]) (I' := I4) (J' := J4) (by with_unfolding_all rfl) ?_
      generalize hc10 : f124_0 I4 J4 1 = q10 at hq
      obtain ⟨v10, _, _⟩ := q10
      dsimp only at hq
      refine pq_1 rfl rfl rfl rfl (f124_0_pq hB hc10) ?_
      rintro _ I10 J10 ⟨rfl, rfl, rfl⟩
      subst hq
      exact pq_2i (x := v10) rfl ⟨rfl, rfl, rfl⟩
-- LP$Room.takeOver
def f42_114_11 (I : tI) (J : tJ) : Unit × tI × tJ :=
  ((), (tup (tup I 114 0 (I 11 0)) 114 1 (I 11 1)), (tup J 114 2 (J 11 2)))
set_option maxRecDepth 100000 in
theorem f42_114_11_pq {sc : List Int32} {B : xM} {n : Nat} {I : tI} {J : tJ} (hB : kB pT B) : ∀ {q : Unit × tI × tJ}, f42_114_11 I J = q → pq sc B n (xt_42, 2, 0) 0 [(0, .ref 114), (1, .ref 11)] [] I J (fun v I1 J1 => v = none ∧ I1 = q.2.1 ∧ J1 = q.2.2) := by
  intro q hq
  unfold f42_114_11 at hq
  refine pq_s hB 12 (pc' := 24) (L' := [(0, .ref 114), (1, .ref 11)]) (st' := []) (I' := (tup (tup I 114 0 (I 11 0)) 114 1 (I 11 1))) (J' := (tup J 114 2 (J 11 2))) (by with_unfolding_all rfl) ?_
  subst hq
  exact pq_2 (v := none) rfl rfl (by with_unfolding_all rfl) ⟨rfl, rfl, rfl⟩
-- LP$Folk.takeOver
def f10_115_12 (I : tI) (J : tJ) : Unit × tI × tJ :=
  ((), (tcp (tcp (tcp (tcp (tcp (tcp (tcp (tup (tup I 115 0 (I 12 0)) 115 1 (I 12 1)) 117 0 14 0 5) 118 0 15 0 5) 119 0 16 0 5) 120 0 17 0 5) 121 0 18 0 40) 122 0 19 0 5) 123 0 20 0 5), (tcp J 116 0 13 0 5))
set_option maxRecDepth 100000 in
theorem f10_115_12_pq {sc : List Int32} {B : xM} {n : Nat} {I : tI} {J : tJ} (hB : kB pT B) : ∀ {q : Unit × tI × tJ}, f10_115_12 I J = q → pq sc B n (xt_10, 2, 0) 0 [(0, .ref 115), (1, .ref 12)] [] I J (fun v I1 J1 => v = none ∧ I1 = q.2.1 ∧ J1 = q.2.2) := by
  intro q hq
  unfold f10_115_12 at hq
  refine pq_s hB 72 (pc' := 129) (L' := [(0, .ref 115), (1, .ref 12)]) (st' := []) (I' := (tcp (tcp (tcp (tcp (tcp (tcp (tcp (tup (tup I 115 0 (I 12 0)) 115 1 (I 12 1)) 117 0 14 0 5) 118 0 15 0 5) 119 0 16 0 5) 120 0 17 0 5) 121 0 18 0 40) 122 0 19 0 5) 123 0 20 0 5)) (J' := (tcp J 116 0 13 0 5)) (by with_unfolding_all rfl) ?_
  subst hq
  exact pq_2 (v := none) rfl rfl (by with_unfolding_all rfl) ⟨rfl, rfl, rfl⟩
-- LP$Sights.takeOver
def f91_124_21 (I : tI) (J : tJ) : Unit × tI × tJ :=
  ((), (tcp (tcp (tcp (tup I 124 0 (I 21 0)) 126 0 23 0 6) 127 0 24 0 6) 128 0 25 0 6), (tcp J 125 0 22 0 6))
set_option maxRecDepth 100000 in
theorem f91_124_21_pq {sc : List Int32} {B : xM} {n : Nat} {I : tI} {J : tJ} (hB : kB pT B) : ∀ {q : Unit × tI × tJ}, f91_124_21 I J = q → pq sc B n (xt_91, 2, 0) 0 [(0, .ref 124), (1, .ref 21)] [] I J (fun v I1 J1 => v = none ∧ I1 = q.2.1 ∧ J1 = q.2.2) := by
  intro q hq
  unfold f91_124_21 at hq
  refine pq_s hB 36 (pc' := 68) (L' := [(0, .ref 124), (1, .ref 21)]) (st' := []) (I' := (tcp (tcp (tcp (tup I 124 0 (I 21 0)) 126 0 23 0 6) 127 0 24 0 6) 128 0 25 0 6)) (J' := (tcp J 125 0 22 0 6)) (by with_unfolding_all rfl) ?_
  subst hq
  exact pq_2 (v := none) rfl rfl (by with_unfolding_all rfl) ⟨rfl, rfl, rfl⟩
-- LP$Runs.takeOver
def f72_129_26 (I : tI) (J : tJ) : Unit × tI × tJ :=
  ((), (tcp (tcp (tcp (tcp (tup (tup (tup I 129 0 (I 26 0)) 129 1 (I 26 1)) 129 2 (I 26 2)) 130 0 27 0 60) 131 0 28 0 60) 132 0 29 0 60) 133 0 30 0 60), J)
set_option maxRecDepth 100000 in
theorem f72_129_26_pq {sc : List Int32} {B : xM} {n : Nat} {I : tI} {J : tJ} (hB : kB pT B) : ∀ {q : Unit × tI × tJ}, f72_129_26 I J = q → pq sc B n (xt_72, 2, 0) 0 [(0, .ref 129), (1, .ref 26)] [] I J (fun v I1 J1 => v = none ∧ I1 = q.2.1 ∧ J1 = q.2.2) := by
  intro q hq
  unfold f72_129_26 at hq
  refine pq_s hB 44 (pc' := 84) (L' := [(0, .ref 129), (1, .ref 26)]) (st' := []) (I' := (tcp (tcp (tcp (tcp (tup (tup (tup I 129 0 (I 26 0)) 129 1 (I 26 1)) 129 2 (I 26 2)) 130 0 27 0 60) 131 0 28 0 60) 132 0 29 0 60) 133 0 30 0 60)) (J' := J) (by with_unfolding_all rfl) ?_
  subst hq
  exact pq_2 (v := none) rfl rfl (by with_unfolding_all rfl) ⟨rfl, rfl, rfl⟩
-- LP$World.takeOver
def f105_113_10 (I : tI) (J : tJ) : Unit × tI × tJ :=
  (match f42_114_11 I J with | (_, I1, J1) => (match f10_115_12 I1 J1 with | (_, I2, J2) => (match f91_124_21 I2 J2 with | (_, I3, J3) => (match f72_129_26 I3 J3 with | (_, I4, J4) => ((), (tcp (tcp (tup (tup (tup I4 113 4 (I4 10 4)) 113 5 (I4 10 5)) 113 6 (I4 10 6)) 135 0 32 0 4) 136 0 33 0 121), (tcp J4 134 0 31 0 4))))))
set_option maxRecDepth 100000 in
theorem f105_113_10_pq {sc : List Int32} {B : xM} {n : Nat} {I : tI} {J : tJ} (hB : kB pT B) : ∀ {q : Unit × tI × tJ}, f105_113_10 I J = q → pq sc B n (xt_105, 2, 0) 0 [(0, .ref 113), (1, .ref 10)] [] I J (fun v I1 J1 => v = none ∧ I1 = q.2.1 ∧ J1 = q.2.2) := by
  intro q hq
  unfold f105_113_10 at hq
  refine pq_s hB 4 (pc' := 8) (L' := [(0, .ref 113), (1, .ref 10)]) (st' := [.ref 11, .ref 114]) (I' := I) (J' := J) (by with_unfolding_all rfl) ?_
  generalize hc1 : f42_114_11 I J = q1 at hq
  obtain ⟨v1, _, _⟩ := q1
  dsimp only at hq
  refine pq_1 rfl rfl rfl rfl (f42_114_11_pq hB hc1) ?_
  rintro _ I1 J1 ⟨rfl, rfl, rfl⟩
  refine pq_s hB 4 (pc' := 19) (L' := [(0, .ref 113), (1, .ref 10)]) (st' := [.ref 12, .ref 115]) (I' := I1) (J' := J1) (by with_unfolding_all rfl) ?_
  generalize hc2 : f10_115_12 I1 J1 = q2 at hq
  obtain ⟨v2, _, _⟩ := q2
  dsimp only at hq
  refine pq_1 rfl rfl rfl rfl (f10_115_12_pq hB hc2) ?_
  rintro _ I2 J2 ⟨rfl, rfl, rfl⟩
  refine pq_s hB 4 (pc' := 30) (L' := [(0, .ref 113), (1, .ref 10)]) (st' := [.ref 21, .ref 124]) (I' := I2) (J' := J2) (by with_unfolding_all rfl) ?_
  generalize hc3 : f91_124_21 I2 J2 = q3 at hq
  obtain ⟨v3, _, _⟩ := q3
  dsimp only at hq
  refine pq_1 rfl rfl rfl rfl (f91_124_21_pq hB hc3) ?_
  rintro _ I3 J3 ⟨rfl, rfl, rfl⟩
  refine pq_s hB 4 (pc' := 41) (L' := [(0, .ref 113), (1, .ref 10)]) (st' := [.ref 26, .ref 129]) (I' := I3) (J' := J3) (by with_unfolding_all rfl) ?_
  generalize hc4 : f72_129_26 I3 J3 = q4 at hq
  obtain ⟨v4, _, _⟩ := q4
  dsimp only at hq
  refine pq_1 rfl rfl rfl rfl (f72_129_26_pq hB hc4) ?_
  rintro _ I4 J4 ⟨rfl, rfl, rfl⟩
  refine pq_s hB 36 (pc' := 111) (L' := [(0, .ref 113), (1, .ref 10)]) (st' := []) (I' := (tcp (tcp (tup (tup (tup I4 113 4 (I4 10 4)) 113 5 (I4 10 5)) 113 6 (I4 10 6)) 135 0 32 0 4) 136 0 33 0 121)) (J' := (tcp J4 134 0 31 0 4)) (by with_unfolding_all rfl) ?_
  subst hq
  exact pq_2 (v := none) rfl rfl (by with_unfolding_all rfl) ⟨rfl, rfl, rfl⟩
-- LP$Room.takeOver
def f42_138_11 (I : tI) (J : tJ) : Unit × tI × tJ :=
  ((), (tup (tup I 138 0 (I 11 0)) 138 1 (I 11 1)), (tup J 138 2 (J 11 2)))
set_option maxRecDepth 100000 in
theorem f42_138_11_pq {sc : List Int32} {B : xM} {n : Nat} {I : tI} {J : tJ} (hB : kB pT B) : ∀ {q : Unit × tI × tJ}, f42_138_11 I J = q → pq sc B n (xt_42, 2, 0) 0 [(0, .ref 138), (1, .ref 11)] [] I J (fun v I1 J1 => v = none ∧ I1 = q.2.1 ∧ J1 = q.2.2) := by
  intro q hq
  unfold f42_138_11 at hq
  refine pq_s hB 12 (pc' := 24) (L' := [(0, .ref 138), (1, .ref 11)]) (st' := []) (I' := (tup (tup I 138 0 (I 11 0)) 138 1 (I 11 1))) (J' := (tup J 138 2 (J 11 2))) (by with_unfolding_all rfl) ?_
  subst hq
  exact pq_2 (v := none) rfl rfl (by with_unfolding_all rfl) ⟨rfl, rfl, rfl⟩
-- LP$Folk.takeOver
def f10_139_12 (I : tI) (J : tJ) : Unit × tI × tJ :=
  ((), (tcp (tcp (tcp (tcp (tcp (tcp (tcp (tup (tup I 139 0 (I 12 0)) 139 1 (I 12 1)) 141 0 14 0 5) 142 0 15 0 5) 143 0 16 0 5) 144 0 17 0 5) 145 0 18 0 40) 146 0 19 0 5) 147 0 20 0 5), (tcp J 140 0 13 0 5))
set_option maxRecDepth 100000 in
theorem f10_139_12_pq {sc : List Int32} {B : xM} {n : Nat} {I : tI} {J : tJ} (hB : kB pT B) : ∀ {q : Unit × tI × tJ}, f10_139_12 I J = q → pq sc B n (xt_10, 2, 0) 0 [(0, .ref 139), (1, .ref 12)] [] I J (fun v I1 J1 => v = none ∧ I1 = q.2.1 ∧ J1 = q.2.2) := by
  intro q hq
  unfold f10_139_12 at hq
  refine pq_s hB 72 (pc' := 129) (L' := [(0, .ref 139), (1, .ref 12)]) (st' := []) (I' := (tcp (tcp (tcp (tcp (tcp (tcp (tcp (tup (tup I 139 0 (I 12 0)) 139 1 (I 12 1)) 141 0 14 0 5) 142 0 15 0 5) 143 0 16 0 5) 144 0 17 0 5) 145 0 18 0 40) 146 0 19 0 5) 147 0 20 0 5)) (J' := (tcp J 140 0 13 0 5)) (by with_unfolding_all rfl) ?_
  subst hq
  exact pq_2 (v := none) rfl rfl (by with_unfolding_all rfl) ⟨rfl, rfl, rfl⟩
-- LP$Sights.takeOver
def f91_148_21 (I : tI) (J : tJ) : Unit × tI × tJ :=
  ((), (tcp (tcp (tcp (tup I 148 0 (I 21 0)) 150 0 23 0 6) 151 0 24 0 6) 152 0 25 0 6), (tcp J 149 0 22 0 6))
set_option maxRecDepth 100000 in
theorem f91_148_21_pq {sc : List Int32} {B : xM} {n : Nat} {I : tI} {J : tJ} (hB : kB pT B) : ∀ {q : Unit × tI × tJ}, f91_148_21 I J = q → pq sc B n (xt_91, 2, 0) 0 [(0, .ref 148), (1, .ref 21)] [] I J (fun v I1 J1 => v = none ∧ I1 = q.2.1 ∧ J1 = q.2.2) := by
  intro q hq
  unfold f91_148_21 at hq
  refine pq_s hB 36 (pc' := 68) (L' := [(0, .ref 148), (1, .ref 21)]) (st' := []) (I' := (tcp (tcp (tcp (tup I 148 0 (I 21 0)) 150 0 23 0 6) 151 0 24 0 6) 152 0 25 0 6)) (J' := (tcp J 149 0 22 0 6)) (by with_unfolding_all rfl) ?_
  subst hq
  exact pq_2 (v := none) rfl rfl (by with_unfolding_all rfl) ⟨rfl, rfl, rfl⟩
-- LP$Runs.takeOver
def f72_153_26 (I : tI) (J : tJ) : Unit × tI × tJ :=
  ((), (tcp (tcp (tcp (tcp (tup (tup (tup I 153 0 (I 26 0)) 153 1 (I 26 1)) 153 2 (I 26 2)) 154 0 27 0 60) 155 0 28 0 60) 156 0 29 0 60) 157 0 30 0 60), J)
set_option maxRecDepth 100000 in
theorem f72_153_26_pq {sc : List Int32} {B : xM} {n : Nat} {I : tI} {J : tJ} (hB : kB pT B) : ∀ {q : Unit × tI × tJ}, f72_153_26 I J = q → pq sc B n (xt_72, 2, 0) 0 [(0, .ref 153), (1, .ref 26)] [] I J (fun v I1 J1 => v = none ∧ I1 = q.2.1 ∧ J1 = q.2.2) := by
  intro q hq
  unfold f72_153_26 at hq
  refine pq_s hB 44 (pc' := 84) (L' := [(0, .ref 153), (1, .ref 26)]) (st' := []) (I' := (tcp (tcp (tcp (tcp (tup (tup (tup I 153 0 (I 26 0)) 153 1 (I 26 1)) 153 2 (I 26 2)) 154 0 27 0 60) 155 0 28 0 60) 156 0 29 0 60) 157 0 30 0 60)) (J' := J) (by with_unfolding_all rfl) ?_
  subst hq
  exact pq_2 (v := none) rfl rfl (by with_unfolding_all rfl) ⟨rfl, rfl, rfl⟩
-- LP$World.takeOver
def f105_137_10 (I : tI) (J : tJ) : Unit × tI × tJ :=
  (match f42_138_11 I J with | (_, I1, J1) => (match f10_139_12 I1 J1 with | (_, I2, J2) => (match f91_148_21 I2 J2 with | (_, I3, J3) => (match f72_153_26 I3 J3 with | (_, I4, J4) => ((), (tcp (tcp (tup (tup (tup I4 137 4 (I4 10 4)) 137 5 (I4 10 5)) 137 6 (I4 10 6)) 159 0 32 0 4) 160 0 33 0 121), (tcp J4 158 0 31 0 4))))))
set_option maxRecDepth 100000 in
theorem f105_137_10_pq {sc : List Int32} {B : xM} {n : Nat} {I : tI} {J : tJ} (hB : kB pT B) : ∀ {q : Unit × tI × tJ}, f105_137_10 I J = q → pq sc B n (xt_105, 2, 0) 0 [(0, .ref 137), (1, .ref 10)] [] I J (fun v I1 J1 => v = none ∧ I1 = q.2.1 ∧ J1 = q.2.2) := by
  intro q hq
  unfold f105_137_10 at hq
  refine pq_s hB 4 (pc' := 8) (L' := [(0, .ref 137), (1, .ref 10)]) (st' := [.ref 11, .ref 138]) (I' := I) (J' := J) (by with_unfolding_all rfl) ?_
  generalize hc1 : f42_138_11 I J = q1 at hq
  obtain ⟨v1, _, _⟩ := q1
  dsimp only at hq
  refine pq_1 rfl rfl rfl rfl (f42_138_11_pq hB hc1) ?_
  rintro _ I1 J1 ⟨rfl, rfl, rfl⟩
  refine pq_s hB 4 (pc' := 19) (L' := [(0, .ref 137), (1, .ref 10)]) (st' := [.ref 12, .ref 139]) (I' := I1) (J' := J1) (by with_unfolding_all rfl) ?_
  generalize hc2 : f10_139_12 I1 J1 = q2 at hq
  obtain ⟨v2, _, _⟩ := q2
  dsimp only at hq
  refine pq_1 rfl rfl rfl rfl (f10_139_12_pq hB hc2) ?_
  rintro _ I2 J2 ⟨rfl, rfl, rfl⟩
  refine pq_s hB 4 (pc' := 30) (L' := [(0, .ref 137), (1, .ref 10)]) (st' := [.ref 21, .ref 148]) (I' := I2) (J' := J2) (by with_unfolding_all rfl) ?_
  generalize hc3 : f91_148_21 I2 J2 = q3 at hq
  obtain ⟨v3, _, _⟩ := q3
  dsimp only at hq
  refine pq_1 rfl rfl rfl rfl (f91_148_21_pq hB hc3) ?_
  rintro _ I3 J3 ⟨rfl, rfl, rfl⟩
  refine pq_s hB 4 (pc' := 41) (L' := [(0, .ref 137), (1, .ref 10)]) (st' := [.ref 26, .ref 153]) (I' := I3) (J' := J3) (by with_unfolding_all rfl) ?_
  generalize hc4 : f72_153_26 I3 J3 = q4 at hq
  obtain ⟨v4, _, _⟩ := q4
  dsimp only at hq
  refine pq_1 rfl rfl rfl rfl (f72_153_26_pq hB hc4) ?_
  rintro _ I4 J4 ⟨rfl, rfl, rfl⟩
  refine pq_s hB 36 (pc' := 111) (L' := [(0, .ref 137), (1, .ref 10)]) (st' := []) (I' := (tcp (tcp (tup (tup (tup I4 137 4 (I4 10 4)) 137 5 (I4 10 5)) 137 6 (I4 10 6)) 159 0 32 0 4) 160 0 33 0 121)) (J' := (tcp J4 158 0 31 0 4)) (by with_unfolding_all rfl) ?_
  subst hq
  exact pq_2 (v := none) rfl rfl (by with_unfolding_all rfl) ⟨rfl, rfl, rfl⟩
-- LP$Room.takeOver
def f42_162_11 (I : tI) (J : tJ) : Unit × tI × tJ :=
  ((), (tup (tup I 162 0 (I 11 0)) 162 1 (I 11 1)), (tup J 162 2 (J 11 2)))
set_option maxRecDepth 100000 in
theorem f42_162_11_pq {sc : List Int32} {B : xM} {n : Nat} {I : tI} {J : tJ} (hB : kB pT B) : ∀ {q : Unit × tI × tJ}, f42_162_11 I J = q → pq sc B n (xt_42, 2, 0) 0 [(0, .ref 162), (1, .ref 11)] [] I J (fun v I1 J1 => v = none ∧ I1 = q.2.1 ∧ J1 = q.2.2) := by
  intro q hq
  unfold f42_162_11 at hq
  refine pq_s hB 12 (pc' := 24) (L' := [(0, .ref 162), (1, .ref 11)]) (st' := []) (I' := (tup (tup I 162 0 (I 11 0)) 162 1 (I 11 1))) (J' := (tup J 162 2 (J 11 2))) (by with_unfolding_all rfl) ?_
  subst hq
  exact pq_2 (v := none) rfl rfl (by with_unfolding_all rfl) ⟨rfl, rfl, rfl⟩
-- LP$Folk.takeOver
def f10_163_12 (I : tI) (J : tJ) : Unit × tI × tJ :=
  ((), (tcp (tcp (tcp (tcp (tcp (tcp (tcp (tup (tup I 163 0 (I 12 0)) 163 1 (I 12 1)) 165 0 14 0 5) 166 0 15 0 5) 167 0 16 0 5) 168 0 17 0 5) 169 0 18 0 40) 170 0 19 0 5) 171 0 20 0 5), (tcp J 164 0 13 0 5))
set_option maxRecDepth 100000 in
theorem f10_163_12_pq {sc : List Int32} {B : xM} {n : Nat} {I : tI} {J : tJ} (hB : kB pT B) : ∀ {q : Unit × tI × tJ}, f10_163_12 I J = q → pq sc B n (xt_10, 2, 0) 0 [(0, .ref 163), (1, .ref 12)] [] I J (fun v I1 J1 => v = none ∧ I1 = q.2.1 ∧ J1 = q.2.2) := by
  intro q hq
  unfold f10_163_12 at hq
  refine pq_s hB 72 (pc' := 129) (L' := [(0, .ref 163), (1, .ref 12)]) (st' := []) (I' := (tcp (tcp (tcp (tcp (tcp (tcp (tcp (tup (tup I 163 0 (I 12 0)) 163 1 (I 12 1)) 165 0 14 0 5) 166 0 15 0 5) 167 0 16 0 5) 168 0 17 0 5) 169 0 18 0 40) 170 0 19 0 5) 171 0 20 0 5)) (J' := (tcp J 164 0 13 0 5)) (by with_unfolding_all rfl) ?_
  subst hq
  exact pq_2 (v := none) rfl rfl (by with_unfolding_all rfl) ⟨rfl, rfl, rfl⟩
-- LP$Sights.takeOver
def f91_172_21 (I : tI) (J : tJ) : Unit × tI × tJ :=
  ((), (tcp (tcp (tcp (tup I 172 0 (I 21 0)) 174 0 23 0 6) 175 0 24 0 6) 176 0 25 0 6), (tcp J 173 0 22 0 6))
set_option maxRecDepth 100000 in
theorem f91_172_21_pq {sc : List Int32} {B : xM} {n : Nat} {I : tI} {J : tJ} (hB : kB pT B) : ∀ {q : Unit × tI × tJ}, f91_172_21 I J = q → pq sc B n (xt_91, 2, 0) 0 [(0, .ref 172), (1, .ref 21)] [] I J (fun v I1 J1 => v = none ∧ I1 = q.2.1 ∧ J1 = q.2.2) := by
  intro q hq
  unfold f91_172_21 at hq
  refine pq_s hB 36 (pc' := 68) (L' := [(0, .ref 172), (1, .ref 21)]) (st' := []) (I' := (tcp (tcp (tcp (tup I 172 0 (I 21 0)) 174 0 23 0 6) 175 0 24 0 6) 176 0 25 0 6)) (J' := (tcp J 173 0 22 0 6)) (by with_unfolding_all rfl) ?_
  subst hq
  exact pq_2 (v := none) rfl rfl (by with_unfolding_all rfl) ⟨rfl, rfl, rfl⟩
-- LP$Runs.takeOver
def f72_177_26 (I : tI) (J : tJ) : Unit × tI × tJ :=
  ((), (tcp (tcp (tcp (tcp (tup (tup (tup I 177 0 (I 26 0)) 177 1 (I 26 1)) 177 2 (I 26 2)) 178 0 27 0 60) 179 0 28 0 60) 180 0 29 0 60) 181 0 30 0 60), J)
set_option maxRecDepth 100000 in
theorem f72_177_26_pq {sc : List Int32} {B : xM} {n : Nat} {I : tI} {J : tJ} (hB : kB pT B) : ∀ {q : Unit × tI × tJ}, f72_177_26 I J = q → pq sc B n (xt_72, 2, 0) 0 [(0, .ref 177), (1, .ref 26)] [] I J (fun v I1 J1 => v = none ∧ I1 = q.2.1 ∧ J1 = q.2.2) := by
  intro q hq
  unfold f72_177_26 at hq
  refine pq_s hB 44 (pc' := 84) (L' := [(0, .ref 177), (1, .ref 26)]) (st' := []) (I' := (tcp (tcp (tcp (tcp (tup (tup (tup I 177 0 (I 26 0)) 177 1 (I 26 1)) 177 2 (I 26 2)) 178 0 27 0 60) 179 0 28 0 60) 180 0 29 0 60) 181 0 30 0 60)) (J' := J) (by with_unfolding_all rfl) ?_
  subst hq
  exact pq_2 (v := none) rfl rfl (by with_unfolding_all rfl) ⟨rfl, rfl, rfl⟩
-- LP$World.takeOver
def f105_161_10 (I : tI) (J : tJ) : Unit × tI × tJ :=
  (match f42_162_11 I J with | (_, I1, J1) => (match f10_163_12 I1 J1 with | (_, I2, J2) => (match f91_172_21 I2 J2 with | (_, I3, J3) => (match f72_177_26 I3 J3 with | (_, I4, J4) => ((), (tcp (tcp (tup (tup (tup I4 161 4 (I4 10 4)) 161 5 (I4 10 5)) 161 6 (I4 10 6)) 183 0 32 0 4) 184 0 33 0 121), (tcp J4 182 0 31 0 4))))))
set_option maxRecDepth 100000 in
theorem f105_161_10_pq {sc : List Int32} {B : xM} {n : Nat} {I : tI} {J : tJ} (hB : kB pT B) : ∀ {q : Unit × tI × tJ}, f105_161_10 I J = q → pq sc B n (xt_105, 2, 0) 0 [(0, .ref 161), (1, .ref 10)] [] I J (fun v I1 J1 => v = none ∧ I1 = q.2.1 ∧ J1 = q.2.2) := by
  intro q hq
  unfold f105_161_10 at hq
  refine pq_s hB 4 (pc' := 8) (L' := [(0, .ref 161), (1, .ref 10)]) (st' := [.ref 11, .ref 162]) (I' := I) (J' := J) (by with_unfolding_all rfl) ?_
  generalize hc1 : f42_162_11 I J = q1 at hq
  obtain ⟨v1, _, _⟩ := q1
  dsimp only at hq
  refine pq_1 rfl rfl rfl rfl (f42_162_11_pq hB hc1) ?_
  rintro _ I1 J1 ⟨rfl, rfl, rfl⟩
  refine pq_s hB 4 (pc' := 19) (L' := [(0, .ref 161), (1, .ref 10)]) (st' := [.ref 12, .ref 163]) (I' := I1) (J' := J1) (by with_unfolding_all rfl) ?_
  generalize hc2 : f10_163_12 I1 J1 = q2 at hq
  obtain ⟨v2, _, _⟩ := q2
  dsimp only at hq
  refine pq_1 rfl rfl rfl rfl (f10_163_12_pq hB hc2) ?_
  rintro _ I2 J2 ⟨rfl, rfl, rfl⟩
  refine pq_s hB 4 (pc' := 30) (L' := [(0, .ref 161), (1, .ref 10)]) (st' := [.ref 21, .ref 172]) (I' := I2) (J' := J2) (by with_unfolding_all rfl) ?_
  generalize hc3 : f91_172_21 I2 J2 = q3 at hq
  obtain ⟨v3, _, _⟩ := q3
  dsimp only at hq
  refine pq_1 rfl rfl rfl rfl (f91_172_21_pq hB hc3) ?_
  rintro _ I3 J3 ⟨rfl, rfl, rfl⟩
  refine pq_s hB 4 (pc' := 41) (L' := [(0, .ref 161), (1, .ref 10)]) (st' := [.ref 26, .ref 177]) (I' := I3) (J' := J3) (by with_unfolding_all rfl) ?_
  generalize hc4 : f72_177_26 I3 J3 = q4 at hq
  obtain ⟨v4, _, _⟩ := q4
  dsimp only at hq
  refine pq_1 rfl rfl rfl rfl (f72_177_26_pq hB hc4) ?_
  rintro _ I4 J4 ⟨rfl, rfl, rfl⟩
  refine pq_s hB 36 (pc' := 111) (L' := [(0, .ref 161), (1, .ref 10)]) (st' := []) (I' := (tcp (tcp (tup (tup (tup I4 161 4 (I4 10 4)) 161 5 (I4 10 5)) 161 6 (I4 10 6)) 183 0 32 0 4) 184 0 33 0 121)) (J' := (tcp J4 182 0 31 0 4)) (by with_unfolding_all rfl) ?_
  subst hq
  exact pq_2 (v := none) rfl rfl (by with_unfolding_all rfl) ⟨rfl, rfl, rfl⟩
-- LP.mark
def f197_0 (I : tI) (J : tJ) : Int32 × tI × tJ :=
  bif xcmp .lt (I 0 12) 3 then (bif xcmp .eq (I 0 12) 0 then ((match f105_113_10 I J with | (_, I3, J3) => (match f121_0 (tup I3 0 12 ((I3 0 12) + 1)) J3 (((I3 0 12) + 1)) with | (v4, I4, J4) => (v4, I4, J4)))) else bif xcmp .eq (I 0 12) 1 then ((match f105_137_10 I J with | (_, I5, J5) => (match f121_0 (tup I5 0 12 ((I5 0 12) + 1)) J5 (((I5 0 12) + 1)) with | (v6, I6, J6) => (v6, I6, J6)))) else ((match f105_161_10 I J with | (_, I7, J7) => (match f121_0 (tup I7 0 12 ((I7 0 12) + 1)) J7 (((I7 0 12) + 1)) with | (v8, I8, J8) => (v8, I8, J8))))) else (match f122_0 I J 4 with | (v9, I9, J9) => (v9, I9, J9))
set_option maxRecDepth 100000 in
theorem f197_0_pq {sc : List Int32} {B : xM} {n : Nat} {I : tI} {J : tJ} (hB : kB pT B) : ∀ {q : Int32 × tI × tJ}, f197_0 I J = q → pq sc B n (xt_197, 1, 1) 0 [(0, .ref 0)] [] I J (fun v I1 J1 => v = some (.int q.1) ∧ I1 = q.2.1 ∧ J1 = q.2.2) := by
  intro q hq
  unfold f197_0 at hq
  refine pq_s hB 3 (pc' := 5) (L' := [(0, .ref 0)]) (st' := [.int 3, .int (I 0 12)]) (I' := I) (J' := J) (by with_unfolding_all rfl) ?_
  refine pq_icn hB rfl (fun h1 => ?_) (fun h1 => ?_)
  · rw [h1, cond_true] at hq
    refine pq_s hB 4 (pc' := 22) (L' := [(0, .ref 0)]) (st' := [.int (I 0 12), .ref 34]) (I' := I) (J' := J) (by with_unfolding_all rfl) ?_
    refine pq_aal3 hB rfl (by decide +kernel) (fun h2_0 => ?_) (fun h2_0 h2_1 => ?_) (fun h2_0 h2_1 => ?_)
    ·
      show pq sc B _ _ _ _ (.ref 113 :: _) _ _ _
      rw [h2_0, cond_true] at hq
      refine pq_s hB 2 (pc' := 27) (L' := [(0, .ref 0)]) (st' := [.ref 10, .ref 113]) (I' := I) (J' := J) (by with_unfolding_all rfl) ?_
      generalize hc3 : f105_113_10 I J = q3 at hq
      obtain ⟨v3, _, _⟩ := q3
      dsimp only at hq
      refine pq_1 rfl rfl rfl rfl (f105_113_10_pq hB hc3) ?_
      rintro _ I3 J3 ⟨rfl, rfl, rfl⟩
      refine pq_s hB 9 (pc' := 45) (L' := [(0, .ref 0)]) (st' := [.int (((I3 0 12) + 1)), .ref 0]) (I' := (tup I3 0 12 ((I3 0 12) + 1))) (J' := J3) (by with_unfolding_all rfl) ?_
      generalize hc4 : f121_0 (tup I3 0 12 ((I3 0 12) + 1)) J3 (((I3 0 12) + 1)) = q4 at hq
      obtain ⟨v4, _, _⟩ := q4
      dsimp only at hq
      refine pq_1 rfl rfl rfl rfl (f121_0_pq hB hc4) ?_
      rintro _ I4 J4 ⟨rfl, rfl, rfl⟩
      subst hq
      exact pq_2i (x := v4) rfl ⟨rfl, rfl, rfl⟩
    ·
        show pq sc B _ _ _ _ (.ref 137 :: _) _ _ _
        rw [h2_0, cond_false] at hq
        rw [h2_1, cond_true] at hq
        refine pq_s hB 2 (pc' := 27) (L' := [(0, .ref 0)]) (st' := [.ref 10, .ref 137]) (I' := I) (J' := J) (by with_unfolding_all rfl) ?_
        generalize hc5 : f105_137_10 I J = q5 at hq
        obtain ⟨v5, _, _⟩ := q5
        dsimp only at hq
        refine pq_1 rfl rfl rfl rfl (f105_137_10_pq hB hc5) ?_
        rintro _ I5 J5 ⟨rfl, rfl, rfl⟩
        refine pq_s hB 9 (pc' := 45) (L' := [(0, .ref 0)]) (st' := [.int (((I5 0 12) + 1)), .ref 0]) (I' := (tup I5 0 12 ((I5 0 12) + 1))) (J' := J5) (by with_unfolding_all rfl) ?_
        generalize hc6 : f121_0 (tup I5 0 12 ((I5 0 12) + 1)) J5 (((I5 0 12) + 1)) = q6 at hq
        obtain ⟨v6, _, _⟩ := q6
        dsimp only at hq
        refine pq_1 rfl rfl rfl rfl (f121_0_pq hB hc6) ?_
        rintro _ I6 J6 ⟨rfl, rfl, rfl⟩
        subst hq
        exact pq_2i (x := v6) rfl ⟨rfl, rfl, rfl⟩
    ·
        show pq sc B _ _ _ _ (.ref 161 :: _) _ _ _
        rw [h2_0, cond_false] at hq
        rw [h2_1, cond_false] at hq
        refine pq_s hB 2 (pc' := 27) (L' := [(0, .ref 0)]) (st' := [.ref 10, .ref 161]) (I' := I) (J' := J) (by with_unfolding_all rfl) ?_
        generalize hc7 : f105_161_10 I J = q7 at hq
        obtain ⟨v7, _, _⟩ := q7
        dsimp only at hq
        refine pq_1 rfl rfl rfl rfl (f105_161_10_pq hB hc7) ?_
        rintro _ I7 J7 ⟨rfl, rfl, rfl⟩
        refine pq_s hB 9 (pc' := 45) (L' := [(0, .ref 0)]) (st' := [.int (((I7 0 12) + 1)), .ref 0]) (I' := (tup I7 0 12 ((I7 0 12) + 1))) (J' := J7) (by with_unfolding_all rfl) ?_
        generalize hc8 : f121_0 (tup I7 0 12 ((I7 0 12) + 1)) J7 (((I7 0 12) + 1)) = q8 at hq
        obtain ⟨v8, _, _⟩ := q8
        dsimp only at hq
        refine pq_1 rfl rfl rfl rfl (f121_0_pq hB hc8) ?_
        rintro _ I8 J8 ⟨rfl, rfl, rfl⟩
        subst hq
        exact pq_2i (x := v8) rfl ⟨rfl, rfl, rfl⟩
  · rw [h1, cond_false] at hq
    refine pq_s hB 2 (pc' := 10) (L' := [(0, .ref 0)]) (st' := [.int 4, .ref 0]) (I' := I) (J' := J) (by with_unfolding_all rfl) ?_
    generalize hc9 : f122_0 I J 4 = q9 at hq
    obtain ⟨v9, _, _⟩ := q9
    dsimp only at hq
    refine pq_1 rfl rfl rfl rfl (f122_0_pq hB hc9) ?_
    rintro _ I9 J9 ⟨rfl, rfl, rfl⟩
    subst hq
    exact pq_2i (x := v9) rfl ⟨rfl, rfl, rfl⟩
-- LP$Room.takeOver
def f42_11_114 (I : tI) (J : tJ) : Unit × tI × tJ :=
  ((), (tup (tup I 11 0 (I 114 0)) 11 1 (I 114 1)), (tup J 11 2 (J 114 2)))
set_option maxRecDepth 100000 in
theorem f42_11_114_pq {sc : List Int32} {B : xM} {n : Nat} {I : tI} {J : tJ} (hB : kB pT B) : ∀ {q : Unit × tI × tJ}, f42_11_114 I J = q → pq sc B n (xt_42, 2, 0) 0 [(0, .ref 11), (1, .ref 114)] [] I J (fun v I1 J1 => v = none ∧ I1 = q.2.1 ∧ J1 = q.2.2) := by
  intro q hq
  unfold f42_11_114 at hq
  refine pq_s hB 12 (pc' := 24) (L' := [(0, .ref 11), (1, .ref 114)]) (st' := []) (I' := (tup (tup I 11 0 (I 114 0)) 11 1 (I 114 1))) (J' := (tup J 11 2 (J 114 2))) (by with_unfolding_all rfl) ?_
  subst hq
  exact pq_2 (v := none) rfl rfl (by with_unfolding_all rfl) ⟨rfl, rfl, rfl⟩
-- LP$Folk.takeOver
def f10_12_115 (I : tI) (J : tJ) : Unit × tI × tJ :=
  ((), (tcp (tcp (tcp (tcp (tcp (tcp (tcp (tup (tup I 12 0 (I 115 0)) 12 1 (I 115 1)) 14 0 117 0 5) 15 0 118 0 5) 16 0 119 0 5) 17 0 120 0 5) 18 0 121 0 40) 19 0 122 0 5) 20 0 123 0 5), (tcp J 13 0 116 0 5))
set_option maxRecDepth 100000 in
theorem f10_12_115_pq {sc : List Int32} {B : xM} {n : Nat} {I : tI} {J : tJ} (hB : kB pT B) : ∀ {q : Unit × tI × tJ}, f10_12_115 I J = q → pq sc B n (xt_10, 2, 0) 0 [(0, .ref 12), (1, .ref 115)] [] I J (fun v I1 J1 => v = none ∧ I1 = q.2.1 ∧ J1 = q.2.2) := by
  intro q hq
  unfold f10_12_115 at hq
  refine pq_s hB 72 (pc' := 129) (L' := [(0, .ref 12), (1, .ref 115)]) (st' := []) (I' := (tcp (tcp (tcp (tcp (tcp (tcp (tcp (tup (tup I 12 0 (I 115 0)) 12 1 (I 115 1)) 14 0 117 0 5) 15 0 118 0 5) 16 0 119 0 5) 17 0 120 0 5) 18 0 121 0 40) 19 0 122 0 5) 20 0 123 0 5)) (J' := (tcp J 13 0 116 0 5)) (by with_unfolding_all rfl) ?_
  subst hq
  exact pq_2 (v := none) rfl rfl (by with_unfolding_all rfl) ⟨rfl, rfl, rfl⟩
-- LP$Sights.takeOver
def f91_21_124 (I : tI) (J : tJ) : Unit × tI × tJ :=
  ((), (tcp (tcp (tcp (tup I 21 0 (I 124 0)) 23 0 126 0 6) 24 0 127 0 6) 25 0 128 0 6), (tcp J 22 0 125 0 6))
set_option maxRecDepth 100000 in
theorem f91_21_124_pq {sc : List Int32} {B : xM} {n : Nat} {I : tI} {J : tJ} (hB : kB pT B) : ∀ {q : Unit × tI × tJ}, f91_21_124 I J = q → pq sc B n (xt_91, 2, 0) 0 [(0, .ref 21), (1, .ref 124)] [] I J (fun v I1 J1 => v = none ∧ I1 = q.2.1 ∧ J1 = q.2.2) := by
  intro q hq
  unfold f91_21_124 at hq
  refine pq_s hB 36 (pc' := 68) (L' := [(0, .ref 21), (1, .ref 124)]) (st' := []) (I' := (tcp (tcp (tcp (tup I 21 0 (I 124 0)) 23 0 126 0 6) 24 0 127 0 6) 25 0 128 0 6)) (J' := (tcp J 22 0 125 0 6)) (by with_unfolding_all rfl) ?_
  subst hq
  exact pq_2 (v := none) rfl rfl (by with_unfolding_all rfl) ⟨rfl, rfl, rfl⟩
-- LP$Runs.takeOver
def f72_26_129 (I : tI) (J : tJ) : Unit × tI × tJ :=
  ((), (tcp (tcp (tcp (tcp (tup (tup (tup I 26 0 (I 129 0)) 26 1 (I 129 1)) 26 2 (I 129 2)) 27 0 130 0 60) 28 0 131 0 60) 29 0 132 0 60) 30 0 133 0 60), J)
set_option maxRecDepth 100000 in
theorem f72_26_129_pq {sc : List Int32} {B : xM} {n : Nat} {I : tI} {J : tJ} (hB : kB pT B) : ∀ {q : Unit × tI × tJ}, f72_26_129 I J = q → pq sc B n (xt_72, 2, 0) 0 [(0, .ref 26), (1, .ref 129)] [] I J (fun v I1 J1 => v = none ∧ I1 = q.2.1 ∧ J1 = q.2.2) := by
  intro q hq
  unfold f72_26_129 at hq
  refine pq_s hB 44 (pc' := 84) (L' := [(0, .ref 26), (1, .ref 129)]) (st' := []) (I' := (tcp (tcp (tcp (tcp (tup (tup (tup I 26 0 (I 129 0)) 26 1 (I 129 1)) 26 2 (I 129 2)) 27 0 130 0 60) 28 0 131 0 60) 29 0 132 0 60) 30 0 133 0 60)) (J' := J) (by with_unfolding_all rfl) ?_
  subst hq
  exact pq_2 (v := none) rfl rfl (by with_unfolding_all rfl) ⟨rfl, rfl, rfl⟩
-- LP$World.takeOver
def f105_10_113 (I : tI) (J : tJ) : Unit × tI × tJ :=
  (match f42_11_114 I J with | (_, I1, J1) => (match f10_12_115 I1 J1 with | (_, I2, J2) => (match f91_21_124 I2 J2 with | (_, I3, J3) => (match f72_26_129 I3 J3 with | (_, I4, J4) => ((), (tcp (tcp (tup (tup (tup I4 10 4 (I4 113 4)) 10 5 (I4 113 5)) 10 6 (I4 113 6)) 32 0 135 0 4) 33 0 136 0 121), (tcp J4 31 0 134 0 4))))))
set_option maxRecDepth 100000 in
theorem f105_10_113_pq {sc : List Int32} {B : xM} {n : Nat} {I : tI} {J : tJ} (hB : kB pT B) : ∀ {q : Unit × tI × tJ}, f105_10_113 I J = q → pq sc B n (xt_105, 2, 0) 0 [(0, .ref 10), (1, .ref 113)] [] I J (fun v I1 J1 => v = none ∧ I1 = q.2.1 ∧ J1 = q.2.2) := by
  intro q hq
  unfold f105_10_113 at hq
  refine pq_s hB 4 (pc' := 8) (L' := [(0, .ref 10), (1, .ref 113)]) (st' := [.ref 114, .ref 11]) (I' := I) (J' := J) (by with_unfolding_all rfl) ?_
  generalize hc1 : f42_11_114 I J = q1 at hq
  obtain ⟨v1, _, _⟩ := q1
  dsimp only at hq
  refine pq_1 rfl rfl rfl rfl (f42_11_114_pq hB hc1) ?_
  rintro _ I1 J1 ⟨rfl, rfl, rfl⟩
  refine pq_s hB 4 (pc' := 19) (L' := [(0, .ref 10), (1, .ref 113)]) (st' := [.ref 115, .ref 12]) (I' := I1) (J' := J1) (by with_unfolding_all rfl) ?_
  generalize hc2 : f10_12_115 I1 J1 = q2 at hq
  obtain ⟨v2, _, _⟩ := q2
  dsimp only at hq
  refine pq_1 rfl rfl rfl rfl (f10_12_115_pq hB hc2) ?_
  rintro _ I2 J2 ⟨rfl, rfl, rfl⟩
  refine pq_s hB 4 (pc' := 30) (L' := [(0, .ref 10), (1, .ref 113)]) (st' := [.ref 124, .ref 21]) (I' := I2) (J' := J2) (by with_unfolding_all rfl) ?_
  generalize hc3 : f91_21_124 I2 J2 = q3 at hq
  obtain ⟨v3, _, _⟩ := q3
  dsimp only at hq
  refine pq_1 rfl rfl rfl rfl (f91_21_124_pq hB hc3) ?_
  rintro _ I3 J3 ⟨rfl, rfl, rfl⟩
  refine pq_s hB 4 (pc' := 41) (L' := [(0, .ref 10), (1, .ref 113)]) (st' := [.ref 129, .ref 26]) (I' := I3) (J' := J3) (by with_unfolding_all rfl) ?_
  generalize hc4 : f72_26_129 I3 J3 = q4 at hq
  obtain ⟨v4, _, _⟩ := q4
  dsimp only at hq
  refine pq_1 rfl rfl rfl rfl (f72_26_129_pq hB hc4) ?_
  rintro _ I4 J4 ⟨rfl, rfl, rfl⟩
  refine pq_s hB 36 (pc' := 111) (L' := [(0, .ref 10), (1, .ref 113)]) (st' := []) (I' := (tcp (tcp (tup (tup (tup I4 10 4 (I4 113 4)) 10 5 (I4 113 5)) 10 6 (I4 113 6)) 32 0 135 0 4) 33 0 136 0 121)) (J' := (tcp J4 31 0 134 0 4)) (by with_unfolding_all rfl) ?_
  subst hq
  exact pq_2 (v := none) rfl rfl (by with_unfolding_all rfl) ⟨rfl, rfl, rfl⟩
-- LP$Room.takeOver
def f42_11_138 (I : tI) (J : tJ) : Unit × tI × tJ :=
  ((), (tup (tup I 11 0 (I 138 0)) 11 1 (I 138 1)), (tup J 11 2 (J 138 2)))
set_option maxRecDepth 100000 in
theorem f42_11_138_pq {sc : List Int32} {B : xM} {n : Nat} {I : tI} {J : tJ} (hB : kB pT B) : ∀ {q : Unit × tI × tJ}, f42_11_138 I J = q → pq sc B n (xt_42, 2, 0) 0 [(0, .ref 11), (1, .ref 138)] [] I J (fun v I1 J1 => v = none ∧ I1 = q.2.1 ∧ J1 = q.2.2) := by
  intro q hq
  unfold f42_11_138 at hq
  refine pq_s hB 12 (pc' := 24) (L' := [(0, .ref 11), (1, .ref 138)]) (st' := []) (I' := (tup (tup I 11 0 (I 138 0)) 11 1 (I 138 1))) (J' := (tup J 11 2 (J 138 2))) (by with_unfolding_all rfl) ?_
  subst hq
  exact pq_2 (v := none) rfl rfl (by with_unfolding_all rfl) ⟨rfl, rfl, rfl⟩
-- LP$Folk.takeOver
def f10_12_139 (I : tI) (J : tJ) : Unit × tI × tJ :=
  ((), (tcp (tcp (tcp (tcp (tcp (tcp (tcp (tup (tup I 12 0 (I 139 0)) 12 1 (I 139 1)) 14 0 141 0 5) 15 0 142 0 5) 16 0 143 0 5) 17 0 144 0 5) 18 0 145 0 40) 19 0 146 0 5) 20 0 147 0 5), (tcp J 13 0 140 0 5))
set_option maxRecDepth 100000 in
theorem f10_12_139_pq {sc : List Int32} {B : xM} {n : Nat} {I : tI} {J : tJ} (hB : kB pT B) : ∀ {q : Unit × tI × tJ}, f10_12_139 I J = q → pq sc B n (xt_10, 2, 0) 0 [(0, .ref 12), (1, .ref 139)] [] I J (fun v I1 J1 => v = none ∧ I1 = q.2.1 ∧ J1 = q.2.2) := by
  intro q hq
  unfold f10_12_139 at hq
  refine pq_s hB 72 (pc' := 129) (L' := [(0, .ref 12), (1, .ref 139)]) (st' := []) (I' := (tcp (tcp (tcp (tcp (tcp (tcp (tcp (tup (tup I 12 0 (I 139 0)) 12 1 (I 139 1)) 14 0 141 0 5) 15 0 142 0 5) 16 0 143 0 5) 17 0 144 0 5) 18 0 145 0 40) 19 0 146 0 5) 20 0 147 0 5)) (J' := (tcp J 13 0 140 0 5)) (by with_unfolding_all rfl) ?_
  subst hq
  exact pq_2 (v := none) rfl rfl (by with_unfolding_all rfl) ⟨rfl, rfl, rfl⟩
-- LP$Sights.takeOver
def f91_21_148 (I : tI) (J : tJ) : Unit × tI × tJ :=
  ((), (tcp (tcp (tcp (tup I 21 0 (I 148 0)) 23 0 150 0 6) 24 0 151 0 6) 25 0 152 0 6), (tcp J 22 0 149 0 6))
set_option maxRecDepth 100000 in
theorem f91_21_148_pq {sc : List Int32} {B : xM} {n : Nat} {I : tI} {J : tJ} (hB : kB pT B) : ∀ {q : Unit × tI × tJ}, f91_21_148 I J = q → pq sc B n (xt_91, 2, 0) 0 [(0, .ref 21), (1, .ref 148)] [] I J (fun v I1 J1 => v = none ∧ I1 = q.2.1 ∧ J1 = q.2.2) := by
  intro q hq
  unfold f91_21_148 at hq
  refine pq_s hB 36 (pc' := 68) (L' := [(0, .ref 21), (1, .ref 148)]) (st' := []) (I' := (tcp (tcp (tcp (tup I 21 0 (I 148 0)) 23 0 150 0 6) 24 0 151 0 6) 25 0 152 0 6)) (J' := (tcp J 22 0 149 0 6)) (by with_unfolding_all rfl) ?_
  subst hq
  exact pq_2 (v := none) rfl rfl (by with_unfolding_all rfl) ⟨rfl, rfl, rfl⟩
-- LP$Runs.takeOver
def f72_26_153 (I : tI) (J : tJ) : Unit × tI × tJ :=
  ((), (tcp (tcp (tcp (tcp (tup (tup (tup I 26 0 (I 153 0)) 26 1 (I 153 1)) 26 2 (I 153 2)) 27 0 154 0 60) 28 0 155 0 60) 29 0 156 0 60) 30 0 157 0 60), J)
set_option maxRecDepth 100000 in
theorem f72_26_153_pq {sc : List Int32} {B : xM} {n : Nat} {I : tI} {J : tJ} (hB : kB pT B) : ∀ {q : Unit × tI × tJ}, f72_26_153 I J = q → pq sc B n (xt_72, 2, 0) 0 [(0, .ref 26), (1, .ref 153)] [] I J (fun v I1 J1 => v = none ∧ I1 = q.2.1 ∧ J1 = q.2.2) := by
  intro q hq
  unfold f72_26_153 at hq
  refine pq_s hB 44 (pc' := 84) (L' := [(0, .ref 26), (1, .ref 153)]) (st' := []) (I' := (tcp (tcp (tcp (tcp (tup (tup (tup I 26 0 (I 153 0)) 26 1 (I 153 1)) 26 2 (I 153 2)) 27 0 154 0 60) 28 0 155 0 60) 29 0 156 0 60) 30 0 157 0 60)) (J' := J) (by with_unfolding_all rfl) ?_
  subst hq
  exact pq_2 (v := none) rfl rfl (by with_unfolding_all rfl) ⟨rfl, rfl, rfl⟩
-- LP$World.takeOver
def f105_10_137 (I : tI) (J : tJ) : Unit × tI × tJ :=
  (match f42_11_138 I J with | (_, I1, J1) => (match f10_12_139 I1 J1 with | (_, I2, J2) => (match f91_21_148 I2 J2 with | (_, I3, J3) => (match f72_26_153 I3 J3 with | (_, I4, J4) => ((), (tcp (tcp (tup (tup (tup I4 10 4 (I4 137 4)) 10 5 (I4 137 5)) 10 6 (I4 137 6)) 32 0 159 0 4) 33 0 160 0 121), (tcp J4 31 0 158 0 4))))))
set_option maxRecDepth 100000 in
theorem f105_10_137_pq {sc : List Int32} {B : xM} {n : Nat} {I : tI} {J : tJ} (hB : kB pT B) : ∀ {q : Unit × tI × tJ}, f105_10_137 I J = q → pq sc B n (xt_105, 2, 0) 0 [(0, .ref 10), (1, .ref 137)] [] I J (fun v I1 J1 => v = none ∧ I1 = q.2.1 ∧ J1 = q.2.2) := by
  intro q hq
  unfold f105_10_137 at hq
  refine pq_s hB 4 (pc' := 8) (L' := [(0, .ref 10), (1, .ref 137)]) (st' := [.ref 138, .ref 11]) (I' := I) (J' := J) (by with_unfolding_all rfl) ?_
  generalize hc1 : f42_11_138 I J = q1 at hq
  obtain ⟨v1, _, _⟩ := q1
  dsimp only at hq
  refine pq_1 rfl rfl rfl rfl (f42_11_138_pq hB hc1) ?_
  rintro _ I1 J1 ⟨rfl, rfl, rfl⟩
  refine pq_s hB 4 (pc' := 19) (L' := [(0, .ref 10), (1, .ref 137)]) (st' := [.ref 139, .ref 12]) (I' := I1) (J' := J1) (by with_unfolding_all rfl) ?_
  generalize hc2 : f10_12_139 I1 J1 = q2 at hq
  obtain ⟨v2, _, _⟩ := q2
  dsimp only at hq
  refine pq_1 rfl rfl rfl rfl (f10_12_139_pq hB hc2) ?_
  rintro _ I2 J2 ⟨rfl, rfl, rfl⟩
  refine pq_s hB 4 (pc' := 30) (L' := [(0, .ref 10), (1, .ref 137)]) (st' := [.ref 148, .ref 21]) (I' := I2) (J' := J2) (by with_unfolding_all rfl) ?_
  generalize hc3 : f91_21_148 I2 J2 = q3 at hq
  obtain ⟨v3, _, _⟩ := q3
  dsimp only at hq
  refine pq_1 rfl rfl rfl rfl (f91_21_148_pq hB hc3) ?_
  rintro _ I3 J3 ⟨rfl, rfl, rfl⟩
  refine pq_s hB 4 (pc' := 41) (L' := [(0, .ref 10), (1, .ref 137)]) (st' := [.ref 153, .ref 26]) (I' := I3) (J' := J3) (by with_unfolding_all rfl) ?_
  generalize hc4 : f72_26_153 I3 J3 = q4 at hq
  obtain ⟨v4, _, _⟩ := q4
  dsimp only at hq
  refine pq_1 rfl rfl rfl rfl (f72_26_153_pq hB hc4) ?_
  rintro _ I4 J4 ⟨rfl, rfl, rfl⟩
  refine pq_s hB 36 (pc' := 111) (L' := [(0, .ref 10), (1, .ref 137)]) (st' := []) (I' := (tcp (tcp (tup (tup (tup I4 10 4 (I4 137 4)) 10 5 (I4 137 5)) 10 6 (I4 137 6)) 32 0 159 0 4) 33 0 160 0 121)) (J' := (tcp J4 31 0 158 0 4)) (by with_unfolding_all rfl) ?_
  subst hq
  exact pq_2 (v := none) rfl rfl (by with_unfolding_all rfl) ⟨rfl, rfl, rfl⟩
-- LP$Room.takeOver
def f42_11_162 (I : tI) (J : tJ) : Unit × tI × tJ :=
  ((), (tup (tup I 11 0 (I 162 0)) 11 1 (I 162 1)), (tup J 11 2 (J 162 2)))
set_option maxRecDepth 100000 in
theorem f42_11_162_pq {sc : List Int32} {B : xM} {n : Nat} {I : tI} {J : tJ} (hB : kB pT B) : ∀ {q : Unit × tI × tJ}, f42_11_162 I J = q → pq sc B n (xt_42, 2, 0) 0 [(0, .ref 11), (1, .ref 162)] [] I J (fun v I1 J1 => v = none ∧ I1 = q.2.1 ∧ J1 = q.2.2) := by
  intro q hq
  unfold f42_11_162 at hq
  refine pq_s hB 12 (pc' := 24) (L' := [(0, .ref 11), (1, .ref 162)]) (st' := []) (I' := (tup (tup I 11 0 (I 162 0)) 11 1 (I 162 1))) (J' := (tup J 11 2 (J 162 2))) (by with_unfolding_all rfl) ?_
  subst hq
  exact pq_2 (v := none) rfl rfl (by with_unfolding_all rfl) ⟨rfl, rfl, rfl⟩
-- LP$Folk.takeOver
def f10_12_163 (I : tI) (J : tJ) : Unit × tI × tJ :=
  ((), (tcp (tcp (tcp (tcp (tcp (tcp (tcp (tup (tup I 12 0 (I 163 0)) 12 1 (I 163 1)) 14 0 165 0 5) 15 0 166 0 5) 16 0 167 0 5) 17 0 168 0 5) 18 0 169 0 40) 19 0 170 0 5) 20 0 171 0 5), (tcp J 13 0 164 0 5))
set_option maxRecDepth 100000 in
theorem f10_12_163_pq {sc : List Int32} {B : xM} {n : Nat} {I : tI} {J : tJ} (hB : kB pT B) : ∀ {q : Unit × tI × tJ}, f10_12_163 I J = q → pq sc B n (xt_10, 2, 0) 0 [(0, .ref 12), (1, .ref 163)] [] I J (fun v I1 J1 => v = none ∧ I1 = q.2.1 ∧ J1 = q.2.2) := by
  intro q hq
  unfold f10_12_163 at hq
  refine pq_s hB 72 (pc' := 129) (L' := [(0, .ref 12), (1, .ref 163)]) (st' := []) (I' := (tcp (tcp (tcp (tcp (tcp (tcp (tcp (tup (tup I 12 0 (I 163 0)) 12 1 (I 163 1)) 14 0 165 0 5) 15 0 166 0 5) 16 0 167 0 5) 17 0 168 0 5) 18 0 169 0 40) 19 0 170 0 5) 20 0 171 0 5)) (J' := (tcp J 13 0 164 0 5)) (by with_unfolding_all rfl) ?_
  subst hq
  exact pq_2 (v := none) rfl rfl (by with_unfolding_all rfl) ⟨rfl, rfl, rfl⟩
-- LP$Sights.takeOver
def f91_21_172 (I : tI) (J : tJ) : Unit × tI × tJ :=
  ((), (tcp (tcp (tcp (tup I 21 0 (I 172 0)) 23 0 174 0 6) 24 0 175 0 6) 25 0 176 0 6), (tcp J 22 0 173 0 6))
set_option maxRecDepth 100000 in
theorem f91_21_172_pq {sc : List Int32} {B : xM} {n : Nat} {I : tI} {J : tJ} (hB : kB pT B) : ∀ {q : Unit × tI × tJ}, f91_21_172 I J = q → pq sc B n (xt_91, 2, 0) 0 [(0, .ref 21), (1, .ref 172)] [] I J (fun v I1 J1 => v = none ∧ I1 = q.2.1 ∧ J1 = q.2.2) := by
  intro q hq
  unfold f91_21_172 at hq
  refine pq_s hB 36 (pc' := 68) (L' := [(0, .ref 21), (1, .ref 172)]) (st' := []) (I' := (tcp (tcp (tcp (tup I 21 0 (I 172 0)) 23 0 174 0 6) 24 0 175 0 6) 25 0 176 0 6)) (J' := (tcp J 22 0 173 0 6)) (by with_unfolding_all rfl) ?_
  subst hq
  exact pq_2 (v := none) rfl rfl (by with_unfolding_all rfl) ⟨rfl, rfl, rfl⟩
-- LP$Runs.takeOver
def f72_26_177 (I : tI) (J : tJ) : Unit × tI × tJ :=
  ((), (tcp (tcp (tcp (tcp (tup (tup (tup I 26 0 (I 177 0)) 26 1 (I 177 1)) 26 2 (I 177 2)) 27 0 178 0 60) 28 0 179 0 60) 29 0 180 0 60) 30 0 181 0 60), J)
set_option maxRecDepth 100000 in
theorem f72_26_177_pq {sc : List Int32} {B : xM} {n : Nat} {I : tI} {J : tJ} (hB : kB pT B) : ∀ {q : Unit × tI × tJ}, f72_26_177 I J = q → pq sc B n (xt_72, 2, 0) 0 [(0, .ref 26), (1, .ref 177)] [] I J (fun v I1 J1 => v = none ∧ I1 = q.2.1 ∧ J1 = q.2.2) := by
  intro q hq
  unfold f72_26_177 at hq
  refine pq_s hB 44 (pc' := 84) (L' := [(0, .ref 26), (1, .ref 177)]) (st' := []) (I' := (tcp (tcp (tcp (tcp (tup (tup (tup I 26 0 (I 177 0)) 26 1 (I 177 1)) 26 2 (I 177 2)) 27 0 178 0 60) 28 0 179 0 60) 29 0 180 0 60) 30 0 181 0 60)) (J' := J) (by with_unfolding_all rfl) ?_
  subst hq
  exact pq_2 (v := none) rfl rfl (by with_unfolding_all rfl) ⟨rfl, rfl, rfl⟩
-- LP$World.takeOver
def f105_10_161 (I : tI) (J : tJ) : Unit × tI × tJ :=
  (match f42_11_162 I J with | (_, I1, J1) => (match f10_12_163 I1 J1 with | (_, I2, J2) => (match f91_21_172 I2 J2 with | (_, I3, J3) => (match f72_26_177 I3 J3 with | (_, I4, J4) => ((), (tcp (tcp (tup (tup (tup I4 10 4 (I4 161 4)) 10 5 (I4 161 5)) 10 6 (I4 161 6)) 32 0 183 0 4) 33 0 184 0 121), (tcp J4 31 0 182 0 4))))))
set_option maxRecDepth 100000 in
theorem f105_10_161_pq {sc : List Int32} {B : xM} {n : Nat} {I : tI} {J : tJ} (hB : kB pT B) : ∀ {q : Unit × tI × tJ}, f105_10_161 I J = q → pq sc B n (xt_105, 2, 0) 0 [(0, .ref 10), (1, .ref 161)] [] I J (fun v I1 J1 => v = none ∧ I1 = q.2.1 ∧ J1 = q.2.2) := by
  intro q hq
  unfold f105_10_161 at hq
  refine pq_s hB 4 (pc' := 8) (L' := [(0, .ref 10), (1, .ref 161)]) (st' := [.ref 162, .ref 11]) (I' := I) (J' := J) (by with_unfolding_all rfl) ?_
  generalize hc1 : f42_11_162 I J = q1 at hq
  obtain ⟨v1, _, _⟩ := q1
  dsimp only at hq
  refine pq_1 rfl rfl rfl rfl (f42_11_162_pq hB hc1) ?_
  rintro _ I1 J1 ⟨rfl, rfl, rfl⟩
  refine pq_s hB 4 (pc' := 19) (L' := [(0, .ref 10), (1, .ref 161)]) (st' := [.ref 163, .ref 12]) (I' := I1) (J' := J1) (by with_unfolding_all rfl) ?_
  generalize hc2 : f10_12_163 I1 J1 = q2 at hq
  obtain ⟨v2, _, _⟩ := q2
  dsimp only at hq
  refine pq_1 rfl rfl rfl rfl (f10_12_163_pq hB hc2) ?_
  rintro _ I2 J2 ⟨rfl, rfl, rfl⟩
  refine pq_s hB 4 (pc' := 30) (L' := [(0, .ref 10), (1, .ref 161)]) (st' := [.ref 172, .ref 21]) (I' := I2) (J' := J2) (by with_unfolding_all rfl) ?_
  generalize hc3 : f91_21_172 I2 J2 = q3 at hq
  obtain ⟨v3, _, _⟩ := q3
  dsimp only at hq
  refine pq_1 rfl rfl rfl rfl (f91_21_172_pq hB hc3) ?_
  rintro _ I3 J3 ⟨rfl, rfl, rfl⟩
  refine pq_s hB 4 (pc' := 41) (L' := [(0, .ref 10), (1, .ref 161)]) (st' := [.ref 177, .ref 26]) (I' := I3) (J' := J3) (by with_unfolding_all rfl) ?_
  generalize hc4 : f72_26_177 I3 J3 = q4 at hq
  obtain ⟨v4, _, _⟩ := q4
  dsimp only at hq
  refine pq_1 rfl rfl rfl rfl (f72_26_177_pq hB hc4) ?_
  rintro _ I4 J4 ⟨rfl, rfl, rfl⟩
  refine pq_s hB 36 (pc' := 111) (L' := [(0, .ref 10), (1, .ref 161)]) (st' := []) (I' := (tcp (tcp (tup (tup (tup I4 10 4 (I4 161 4)) 10 5 (I4 161 5)) 10 6 (I4 161 6)) 32 0 183 0 4) 33 0 184 0 121)) (J' := (tcp J4 31 0 182 0 4)) (by with_unfolding_all rfl) ?_
  subst hq
  exact pq_2 (v := none) rfl rfl (by with_unfolding_all rfl) ⟨rfl, rfl, rfl⟩
-- LP.undo
def f198_0 (I : tI) (J : tJ) : Int32 × tI × tJ :=
  bif xcmp .ge (I 0 12) 1 then (bif xcmp .eq (((I 0 12) - 1)) 0 then ((match f105_10_113 (tup I 0 12 ((I 0 12) - 1)) J with | (_, I3, J3) => (match f121_0 I3 J3 (I3 0 12) with | (v4, I4, J4) => (v4, I4, J4)))) else bif xcmp .eq (((I 0 12) - 1)) 1 then ((match f105_10_137 (tup I 0 12 ((I 0 12) - 1)) J with | (_, I5, J5) => (match f121_0 I5 J5 (I5 0 12) with | (v6, I6, J6) => (v6, I6, J6)))) else ((match f105_10_161 (tup I 0 12 ((I 0 12) - 1)) J with | (_, I7, J7) => (match f121_0 I7 J7 (I7 0 12) with | (v8, I8, J8) => (v8, I8, J8))))) else (match f122_0 I J 6 with | (v9, I9, J9) => (v9, I9, J9))
set_option maxRecDepth 100000 in
theorem f198_0_pq {sc : List Int32} {B : xM} {n : Nat} {I : tI} {J : tJ} (hB : kB pT B) : ∀ {q : Int32 × tI × tJ}, f198_0 I J = q → pq sc B n (xt_198, 1, 1) 0 [(0, .ref 0)] [] I J (fun v I1 J1 => v = some (.int q.1) ∧ I1 = q.2.1 ∧ J1 = q.2.2) := by
  intro q hq
  unfold f198_0 at hq
  refine pq_s hB 3 (pc' := 5) (L' := [(0, .ref 0)]) (st' := [.int 1, .int (I 0 12)]) (I' := I) (J' := J) (by with_unfolding_all rfl) ?_
  refine pq_icn hB rfl (fun h1 => ?_) (fun h1 => ?_)
  · rw [h1, cond_true] at hq
    refine pq_s hB 12 (pc' := 37) (L' := [(0, .ref 0)]) (st' := [.int (((I 0 12) - 1)), .ref 34, .ref 10]) (I' := (tup I 0 12 ((I 0 12) - 1))) (J' := J) (by with_unfolding_all rfl) ?_
    refine pq_aal3 hB rfl (by decide +kernel) (fun h2_0 => ?_) (fun h2_0 h2_1 => ?_) (fun h2_0 h2_1 => ?_)
    ·
      show pq sc B _ _ _ _ (.ref 113 :: _) _ _ _
      rw [h2_0, cond_true] at hq
      generalize hc3 : f105_10_113 (tup I 0 12 ((I 0 12) - 1)) J = q3 at hq
      obtain ⟨v3, _, _⟩ := q3
      dsimp only at hq
      refine pq_1 rfl rfl rfl rfl (f105_10_113_pq hB hc3) ?_
      rintro _ I3 J3 ⟨rfl, rfl, rfl⟩
      refine pq_s hB 3 (pc' := 46) (L' := [(0, .ref 0)]) (st' := [.int (I3 0 12), .ref 0]) (I' := I3) (J' := J3) (by with_unfolding_all rfl) ?_
      generalize hc4 : f121_0 I3 J3 (I3 0 12) = q4 at hq
      obtain ⟨v4, _, _⟩ := q4
      dsimp only at hq
      refine pq_1 rfl rfl rfl rfl (f121_0_pq hB hc4) ?_
      rintro _ I4 J4 ⟨rfl, rfl, rfl⟩
      subst hq
      exact pq_2i (x := v4) rfl ⟨rfl, rfl, rfl⟩
    ·
        show pq sc B _ _ _ _ (.ref 137 :: _) _ _ _
        rw [h2_0, cond_false] at hq
        rw [h2_1, cond_true] at hq
        generalize hc5 : f105_10_137 (tup I 0 12 ((I 0 12) - 1)) J = q5 at hq
        obtain ⟨v5, _, _⟩ := q5
        dsimp only at hq
        refine pq_1 rfl rfl rfl rfl (f105_10_137_pq hB hc5) ?_
        rintro _ I5 J5 ⟨rfl, rfl, rfl⟩
        refine pq_s hB 3 (pc' := 46) (L' := [(0, .ref 0)]) (st' := [.int (I5 0 12), .ref 0]) (I' := I5) (J' := J5) (by with_unfolding_all rfl) ?_
        generalize hc6 : f121_0 I5 J5 (I5 0 12) = q6 at hq
        obtain ⟨v6, _, _⟩ := q6
        dsimp only at hq
        refine pq_1 rfl rfl rfl rfl (f121_0_pq hB hc6) ?_
        rintro _ I6 J6 ⟨rfl, rfl, rfl⟩
        subst hq
        exact pq_2i (x := v6) rfl ⟨rfl, rfl, rfl⟩
    ·
        show pq sc B _ _ _ _ (.ref 161 :: _) _ _ _
        rw [h2_0, cond_false] at hq
        rw [h2_1, cond_false] at hq
        generalize hc7 : f105_10_161 (tup I 0 12 ((I 0 12) - 1)) J = q7 at hq
        obtain ⟨v7, _, _⟩ := q7
        dsimp only at hq
        refine pq_1 rfl rfl rfl rfl (f105_10_161_pq hB hc7) ?_
        rintro _ I7 J7 ⟨rfl, rfl, rfl⟩
        refine pq_s hB 3 (pc' := 46) (L' := [(0, .ref 0)]) (st' := [.int (I7 0 12), .ref 0]) (I' := I7) (J' := J7) (by with_unfolding_all rfl) ?_
        generalize hc8 : f121_0 I7 J7 (I7 0 12) = q8 at hq
        obtain ⟨v8, _, _⟩ := q8
        dsimp only at hq
        refine pq_1 rfl rfl rfl rfl (f121_0_pq hB hc8) ?_
        rintro _ I8 J8 ⟨rfl, rfl, rfl⟩
        subst hq
        exact pq_2i (x := v8) rfl ⟨rfl, rfl, rfl⟩
  · rw [h1, cond_false] at hq
    refine pq_s hB 2 (pc' := 11) (L' := [(0, .ref 0)]) (st' := [.int 6, .ref 0]) (I' := I) (J' := J) (by with_unfolding_all rfl) ?_
    generalize hc9 : f122_0 I J 6 = q9 at hq
    obtain ⟨v9, _, _⟩ := q9
    dsimp only at hq
    refine pq_1 rfl rfl rfl rfl (f122_0_pq hB hc9) ?_
    rintro _ I9 J9 ⟨rfl, rfl, rfl⟩
    subst hq
    exact pq_2i (x := v9) rfl ⟨rfl, rfl, rfl⟩
-- LP$World.priceAt
def f106_10 (I : tI) (J : tJ) (a0 : Int32) : Int32 × tI × tJ :=
  (((I 10 4) + ((a0 - 1) * (I 10 5))), I, J)
set_option maxRecDepth 100000 in
theorem f106_10_pq {sc : List Int32} {B : xM} {n : Nat} {I : tI} {J : tJ} {a0 : Int32} (hB : kB pT B) : ∀ {q : Int32 × tI × tJ}, f106_10 I J a0 = q → pq sc B n (xt_106, 2, 1) 0 [(0, .ref 10), (1, .int a0)] [] I J (fun v I1 J1 => v = some (.int q.1) ∧ I1 = q.2.1 ∧ J1 = q.2.2) := by
  intro q hq
  unfold f106_10 at hq
  refine pq_s hB 9 (pc' := 13) (L' := [(0, .ref 10), (1, .int a0)]) (st' := [.int ((I 10 4) + ((a0 - 1) * (I 10 5)))]) (I' := I) (J' := J) (by with_unfolding_all rfl) ?_
  subst hq
  exact pq_2i (x := ((I 10 4) + ((a0 - 1) * (I 10 5)))) rfl ⟨rfl, rfl, rfl⟩
-- LP.priceOf
def f165_0 (I : tI) (J : tJ) (a0 : Int32) : Int32 × tI × tJ :=
  (match f127 I J a0 1 999 with | (v1, I1, J1) => bif xcmp .eq v1 0 then (match f122_0 I1 J1 1 with | (v3, I3, J3) => (v3, I3, J3)) else (match f106_10 I1 J1 a0 with | (v4, I4, J4) => (match f121_0 I4 J4 v4 with | (v5, I5, J5) => (v5, I5, J5))))
set_option maxRecDepth 100000 in
theorem f165_0_pq {sc : List Int32} {B : xM} {n : Nat} {I : tI} {J : tJ} {a0 : Int32} (hB : kB pT B) : ∀ {q : Int32 × tI × tJ}, f165_0 I J a0 = q → pq sc B n (xt_165, 2, 1) 0 [(0, .ref 0), (1, .int a0)] [] I J (fun v I1 J1 => v = some (.int q.1) ∧ I1 = q.2.1 ∧ J1 = q.2.2) := by
  intro q hq
  unfold f165_0 at hq
  refine pq_s hB 3 (pc' := 5) (L' := [(0, .ref 0), (1, .int a0)]) (st' := [.int 999, .int 1, .int a0]) (I' := I) (J' := J) (by with_unfolding_all rfl) ?_
  generalize hc1 : f127 I J a0 1 999 = q1 at hq
  obtain ⟨v1, _, _⟩ := q1
  dsimp only at hq
  refine pq_1 rfl rfl rfl rfl (f127_pq hB hc1) ?_
  rintro _ I1 J1 ⟨rfl, rfl, rfl⟩
  refine pq_ifn hB rfl (fun h2 => ?_) (fun h2 => ?_)
  · rw [h2, cond_true] at hq
    refine pq_s hB 2 (pc' := 28) (L' := [(0, .ref 0), (1, .int a0)]) (st' := [.int 1, .ref 0]) (I' := I1) (J' := J1) (by with_unfolding_all rfl) ?_
    generalize hc3 : f122_0 I1 J1 1 = q3 at hq
    obtain ⟨v3, _, _⟩ := q3
    dsimp only at hq
    refine pq_1 rfl rfl rfl rfl (f122_0_pq hB hc3) ?_
    rintro _ I3 J3 ⟨rfl, rfl, rfl⟩
    subst hq
    exact pq_2i (x := v3) rfl ⟨rfl, rfl, rfl⟩
  · rw [h2, cond_false] at hq
    refine pq_s hB 4 (pc' := 17) (L' := [(0, .ref 0), (1, .int a0)]) (st' := [.int a0, .ref 10, .ref 0]) (I' := I1) (J' := J1) (by with_unfolding_all rfl) ?_
    generalize hc4 : f106_10 I1 J1 a0 = q4 at hq
    obtain ⟨v4, _, _⟩ := q4
    dsimp only at hq
    refine pq_1 rfl rfl rfl rfl (f106_10_pq hB hc4) ?_
    rintro _ I4 J4 ⟨rfl, rfl, rfl⟩
    generalize hc5 : f121_0 I4 J4 v4 = q5 at hq
    obtain ⟨v5, _, _⟩ := q5
    dsimp only at hq
    refine pq_1 rfl rfl rfl rfl (f121_0_pq hB hc5) ?_
    rintro _ I5 J5 ⟨rfl, rfl, rfl⟩
    refine pq_s hB 1 (pc' := 31) (L' := [(0, .ref 0), (1, .int a0)]) (st' := [.int v5]) (I' := I5) (J' := J5) (by with_unfolding_all rfl) ?_
    subst hq
    exact pq_2i (x := v5) rfl ⟨rfl, rfl, rfl⟩
-- LP.stepOf
def f151_0 (I : tI) (J : tJ) (a0 : Int32) (a1 : Int32) : Int32 × tI × tJ :=
  (match f128_0 I J a0 with | (v1, I1, J1) => bif xcmp .ne v1 0 then (match f127 I1 J1 a1 0 ((I1 17 (a0).toNatClampNeg) - 1) with | (v3, I3, J3) => bif xcmp .ne v3 0 then (match f121_0 I3 J3 (I3 18 (((a0 * 8) + a1)).toNatClampNeg) with | (v5, I5, J5) => (v5, I5, J5)) else (match f122_0 I3 J3 6 with | (v6, I6, J6) => (v6, I6, J6))) else (match f122_0 I1 J1 1 with | (v7, I7, J7) => (v7, I7, J7)))
set_option maxRecDepth 100000 in
theorem f151_0_pq {sc : List Int32} {B : xM} {n : Nat} {I : tI} {J : tJ} {a0 : Int32} {a1 : Int32} (hB : kB pT B) : ∀ {q : Int32 × tI × tJ}, f151_0 I J a0 a1 = q → pq sc B n (xt_151, 3, 1) 0 [(0, .ref 0), (1, .int a0), (2, .int a1)] [] I J (fun v I1 J1 => v = some (.int q.1) ∧ I1 = q.2.1 ∧ J1 = q.2.2) := by
  intro q hq
  unfold f151_0 at hq
  refine pq_s hB 2 (pc' := 2) (L' := [(0, .ref 0), (1, .int a0), (2, .int a1)]) (st' := [.int a0, .ref 0]) (I' := I) (J' := J) (by with_unfolding_all rfl) ?_
  generalize hc1 : f128_0 I J a0 = q1 at hq
  obtain ⟨v1, _, _⟩ := q1
  dsimp only at hq
  refine pq_1 rfl rfl rfl rfl (f128_0_pq hB hc1) ?_
  rintro _ I1 J1 ⟨rfl, rfl, rfl⟩
  refine pq_ifn hB rfl (fun h2 => ?_) (fun h2 => ?_)
  · rw [h2, cond_true] at hq
    refine pq_s hB 10 (pc' := 30) (L' := [(0, .ref 0), (1, .int a0), (2, .int a1)]) (st' := [.int ((I1 17 (a0).toNatClampNeg) - 1), .int 0, .int a1]) (I' := I1) (J' := J1) (by with_unfolding_all rfl) ?_
    generalize hc3 : f127 I1 J1 a1 0 ((I1 17 (a0).toNatClampNeg) - 1) = q3 at hq
    obtain ⟨v3, _, _⟩ := q3
    dsimp only at hq
    refine pq_1 rfl rfl rfl rfl (f127_pq hB hc3) ?_
    rintro _ I3 J3 ⟨rfl, rfl, rfl⟩
    refine pq_ifn hB rfl (fun h4 => ?_) (fun h4 => ?_)
    · rw [h4, cond_true] at hq
      refine pq_s hB 11 (pc' := 61) (L' := [(0, .ref 0), (1, .int a0), (2, .int a1)]) (st' := [.int (I3 18 (((a0 * 8) + a1)).toNatClampNeg), .ref 0]) (I' := I3) (J' := J3) (by with_unfolding_all rfl) ?_
      generalize hc5 : f121_0 I3 J3 (I3 18 (((a0 * 8) + a1)).toNatClampNeg) = q5 at hq
      obtain ⟨v5, _, _⟩ := q5
      dsimp only at hq
      refine pq_1 rfl rfl rfl rfl (f121_0_pq hB hc5) ?_
      rintro _ I5 J5 ⟨rfl, rfl, rfl⟩
      subst hq
      exact pq_2i (x := v5) rfl ⟨rfl, rfl, rfl⟩
    · rw [h4, cond_false] at hq
      refine pq_s hB 2 (pc' := 39) (L' := [(0, .ref 0), (1, .int a0), (2, .int a1)]) (st' := [.int 6, .ref 0]) (I' := I3) (J' := J3) (by with_unfolding_all rfl) ?_
      generalize hc6 : f122_0 I3 J3 6 = q6 at hq
      obtain ⟨v6, _, _⟩ := q6
      dsimp only at hq
      refine pq_1 rfl rfl rfl rfl (f122_0_pq hB hc6) ?_
      rintro _ I6 J6 ⟨rfl, rfl, rfl⟩
      subst hq
      exact pq_2i (x := v6) rfl ⟨rfl, rfl, rfl⟩
  · rw [h2, cond_false] at hq
    refine pq_s hB 2 (pc' := 10) (L' := [(0, .ref 0), (1, .int a0), (2, .int a1)]) (st' := [.int 1, .ref 0]) (I' := I1) (J' := J1) (by with_unfolding_all rfl) ?_
    generalize hc7 : f122_0 I1 J1 1 = q7 at hq
    obtain ⟨v7, _, _⟩ := q7
    dsimp only at hq
    refine pq_1 rfl rfl rfl rfl (f122_0_pq hB hc7) ?_
    rintro _ I7 J7 ⟨rfl, rfl, rfl⟩
    subst hq
    exact pq_2i (x := v7) rfl ⟨rfl, rfl, rfl⟩
-- LP.isSight
def f129_0 (I : tI) (J : tJ) (a0 : Int32) : Int32 × tI × tJ :=
  (match f127 I J a0 0 ((I 21 0) - 1) with | (v1, I1, J1) => (v1, I1, J1))
set_option maxRecDepth 100000 in
theorem f129_0_pq {sc : List Int32} {B : xM} {n : Nat} {I : tI} {J : tJ} {a0 : Int32} (hB : kB pT B) : ∀ {q : Int32 × tI × tJ}, f129_0 I J a0 = q → pq sc B n (xt_129, 2, 3) 0 [(0, .ref 0), (1, .int a0)] [] I J (fun v I1 J1 => v = some (.int q.1) ∧ I1 = q.2.1 ∧ J1 = q.2.2) := by
  intro q hq
  unfold f129_0 at hq
  refine pq_s hB 8 (pc' := 14) (L' := [(0, .ref 0), (1, .int a0)]) (st' := [.int ((I 21 0) - 1), .int 0, .int a0]) (I' := I) (J' := J) (by with_unfolding_all rfl) ?_
  generalize hc1 : f127 I J a0 0 ((I 21 0) - 1) = q1 at hq
  obtain ⟨v1, _, _⟩ := q1
  dsimp only at hq
  refine pq_1 rfl rfl rfl rfl (f127_pq hB hc1) ?_
  rintro _ I1 J1 ⟨rfl, rfl, rfl⟩
  subst hq
  exact pq_2i (x := v1) rfl ⟨rfl, rfl, rfl⟩
-- LP.answerFound
def f125_0 (I : tI) (J : tJ) (a0 : Int32) : Int32 × tI × tJ :=
  bif xcmp .ne a0 (-1) then (match f121_0 I J a0 with | (v2, I2, J2) => (v2, I2, J2)) else (match f122_0 I J 6 with | (v3, I3, J3) => (v3, I3, J3))
set_option maxRecDepth 100000 in
theorem f125_0_pq {sc : List Int32} {B : xM} {n : Nat} {I : tI} {J : tJ} {a0 : Int32} (hB : kB pT B) : ∀ {q : Int32 × tI × tJ}, f125_0 I J a0 = q → pq sc B n (xt_125, 2, 1) 0 [(0, .ref 0), (1, .int a0)] [] I J (fun v I1 J1 => v = some (.int q.1) ∧ I1 = q.2.1 ∧ J1 = q.2.2) := by
  intro q hq
  unfold f125_0 at hq
  refine pq_s hB 2 (pc' := 2) (L' := [(0, .ref 0), (1, .int a0)]) (st' := [.int (-1), .int a0]) (I' := I) (J' := J) (by with_unfolding_all rfl) ?_
  refine pq_icn hB rfl (fun h1 => ?_) (fun h1 => ?_)
  · rw [h1, cond_true] at hq
    refine pq_s hB 2 (pc' := 16) (L' := [(0, .ref 0), (1, .int a0)]) (st' := [.int a0, .ref 0]) (I' := I) (J' := J) (by with_unfolding_all rfl) ?_
    generalize hc2 : f121_0 I J a0 = q2 at hq
    obtain ⟨v2, _, _⟩ := q2
    dsimp only at hq
    refine pq_1 rfl rfl rfl rfl (f121_0_pq hB hc2) ?_
    rintro _ I2 J2 ⟨rfl, rfl, rfl⟩
    subst hq
    exact pq_2i (x := v2) rfl ⟨rfl, rfl, rfl⟩
  · rw [h1, cond_false] at hq
    refine pq_s hB 2 (pc' := 8) (L' := [(0, .ref 0), (1, .int a0)]) (st' := [.int 6, .ref 0]) (I' := I) (J' := J) (by with_unfolding_all rfl) ?_
    generalize hc3 : f122_0 I J 6 = q3 at hq
    obtain ⟨v3, _, _⟩ := q3
    dsimp only at hq
    refine pq_1 rfl rfl rfl rfl (f122_0_pq hB hc3) ?_
    rintro _ I3 J3 ⟨rfl, rfl, rfl⟩
    refine pq_s hB 1 (pc' := 19) (L' := [(0, .ref 0), (1, .int a0)]) (st' := [.int v3]) (I' := I3) (J' := J3) (by with_unfolding_all rfl) ?_
    subst hq
    exact pq_2i (x := v3) rfl ⟨rfl, rfl, rfl⟩
-- LP.sight
def f152_0 (I : tI) (J : tJ) (a0 : Int32) (a1 : Int32) : Int32 × tI × tJ :=
  (match f129_0 I J a0 with | (v1, I1, J1) => bif xcmp .eq v1 0 then (match f122_0 I1 J1 1 with | (v3, I3, J3) => (v3, I3, J3)) else (match f127 I1 J1 a1 0 2 with | (v4, I4, J4) => bif xcmp .ne v4 0 then (bif xcmp .ne a1 0 then (bif xcmp .ne a1 1 then (match f125_0 I4 J4 (I4 25 (a0).toNatClampNeg) with | (v8, I8, J8) => (v8, I8, J8)) else (match f125_0 I4 J4 (I4 24 (a0).toNatClampNeg) with | (v9, I9, J9) => (v9, I9, J9))) else (match f121_0 I4 J4 (I4 23 (a0).toNatClampNeg) with | (v10, I10, J10) => (v10, I10, J10))) else (match f122_0 I4 J4 1 with | (v11, I11, J11) => (v11, I11, J11))))
set_option maxRecDepth 100000 in
theorem f152_0_pq {sc : List Int32} {B : xM} {n : Nat} {I : tI} {J : tJ} {a0 : Int32} {a1 : Int32} (hB : kB pT B) : ∀ {q : Int32 × tI × tJ}, f152_0 I J a0 a1 = q → pq sc B n (xt_152, 4, 1) 0 [(0, .ref 0), (1, .int a0), (2, .int a1)] [] I J (fun v I1 J1 => v = some (.int q.1) ∧ I1 = q.2.1 ∧ J1 = q.2.2) := by
  intro q hq
  unfold f152_0 at hq
  refine pq_s hB 2 (pc' := 2) (L' := [(0, .ref 0), (1, .int a0), (2, .int a1)]) (st' := [.int a0, .ref 0]) (I' := I) (J' := J) (by with_unfolding_all rfl) ?_
  generalize hc1 : f129_0 I J a0 = q1 at hq
  obtain ⟨v1, _, _⟩ := q1
  dsimp only at hq
  refine pq_1 rfl rfl rfl rfl (f129_0_pq hB hc1) ?_
  rintro _ I1 J1 ⟨rfl, rfl, rfl⟩
  refine pq_ifn hB rfl (fun h2 => ?_) (fun h2 => ?_)
  · rw [h2, cond_true] at hq
    refine pq_s hB 2 (pc' := 19) (L' := [(0, .ref 0), (1, .int a0), (2, .int a1)]) (st' := [.int 1, .ref 0]) (I' := I1) (J' := J1) (by with_unfolding_all rfl) ?_
    generalize hc3 : f122_0 I1 J1 1 = q3 at hq
    obtain ⟨v3, _, _⟩ := q3
    dsimp only at hq
    refine pq_1 rfl rfl rfl rfl (f122_0_pq hB hc3) ?_
    rintro _ I3 J3 ⟨rfl, rfl, rfl⟩
    subst hq
    exact pq_2i (x := v3) rfl ⟨rfl, rfl, rfl⟩
  · rw [h2, cond_false] at hq
    refine pq_s hB 3 (pc' := 11) (L' := [(0, .ref 0), (1, .int a0), (2, .int a1)]) (st' := [.int 2, .int 0, .int a1]) (I' := I1) (J' := J1) (by with_unfolding_all rfl) ?_
    generalize hc4 : f127 I1 J1 a1 0 2 = q4 at hq
    obtain ⟨v4, _, _⟩ := q4
    dsimp only at hq
    refine pq_1 rfl rfl rfl rfl (f127_pq hB hc4) ?_
    rintro _ I4 J4 ⟨rfl, rfl, rfl⟩
    refine pq_ifn hB rfl (fun h5 => ?_) (fun h5 => ?_)
    · rw [h5, cond_true] at hq
      refine pq_s hB 5 (pc' := 32) (L' := [(3, .ref 21), (0, .ref 0), (1, .int a0), (2, .int a1)]) (st' := [.int a1]) (I' := I4) (J' := J4) (by with_unfolding_all rfl) ?_
      refine pq_ifn hB rfl (fun h6 => ?_) (fun h6 => ?_)
      · rw [h6, cond_true] at hq
        refine pq_s hB 3 (pc' := 49) (L' := [(3, .ref 21), (0, .ref 0), (1, .int a0), (2, .int a1)]) (st' := [.int 1, .int a1, .ref 0]) (I' := I4) (J' := J4) (by with_unfolding_all rfl) ?_
        refine pq_icn hB rfl (fun h7 => ?_) (fun h7 => ?_)
        · rw [h7, cond_true] at hq
          refine pq_s hB 4 (pc' := 67) (L' := [(3, .ref 21), (0, .ref 0), (1, .int a0), (2, .int a1)]) (st' := [.int (I4 25 (a0).toNatClampNeg), .ref 0]) (I' := I4) (J' := J4) (by with_unfolding_all rfl) ?_
          generalize hc8 : f125_0 I4 J4 (I4 25 (a0).toNatClampNeg) = q8 at hq
          obtain ⟨v8, _, _⟩ := q8
          dsimp only at hq
          refine pq_1 rfl rfl rfl rfl (f125_0_pq hB hc8) ?_
          rintro _ I8 J8 ⟨rfl, rfl, rfl⟩
          subst hq
          exact pq_2i (x := v8) rfl ⟨rfl, rfl, rfl⟩
        · rw [h7, cond_false] at hq
          refine pq_s hB 5 (pc' := 67) (L' := [(3, .ref 21), (0, .ref 0), (1, .int a0), (2, .int a1)]) (st' := [.int (I4 24 (a0).toNatClampNeg), .ref 0]) (I' := I4) (J' := J4) (by with_unfolding_all rfl) ?_
          generalize hc9 : f125_0 I4 J4 (I4 24 (a0).toNatClampNeg) = q9 at hq
          obtain ⟨v9, _, _⟩ := q9
          dsimp only at hq
          refine pq_1 rfl rfl rfl rfl (f125_0_pq hB hc9) ?_
          rintro _ I9 J9 ⟨rfl, rfl, rfl⟩
          subst hq
          exact pq_2i (x := v9) rfl ⟨rfl, rfl, rfl⟩
      · rw [h6, cond_false] at hq
        refine pq_s hB 5 (pc' := 42) (L' := [(3, .ref 21), (0, .ref 0), (1, .int a0), (2, .int a1)]) (st' := [.int (I4 23 (a0).toNatClampNeg), .ref 0]) (I' := I4) (J' := J4) (by with_unfolding_all rfl) ?_
        generalize hc10 : f121_0 I4 J4 (I4 23 (a0).toNatClampNeg) = q10 at hq
        obtain ⟨v10, _, _⟩ := q10
        dsimp only at hq
        refine pq_1 rfl rfl rfl rfl (f121_0_pq hB hc10) ?_
        rintro _ I10 J10 ⟨rfl, rfl, rfl⟩
        subst hq
        exact pq_2i (x := v10) rfl ⟨rfl, rfl, rfl⟩
    · rw [h5, cond_false] at hq
      refine pq_s hB 2 (pc' := 19) (L' := [(0, .ref 0), (1, .int a0), (2, .int a1)]) (st' := [.int 1, .ref 0]) (I' := I4) (J' := J4) (by with_unfolding_all rfl) ?_
      generalize hc11 : f122_0 I4 J4 1 = q11 at hq
      obtain ⟨v11, _, _⟩ := q11
      dsimp only at hq
      refine pq_1 rfl rfl rfl rfl (f122_0_pq hB hc11) ?_
      rintro _ I11 J11 ⟨rfl, rfl, rfl⟩
      subst hq
      exact pq_2i (x := v11) rfl ⟨rfl, rfl, rfl⟩
-- LPModel.price
def f292_185 (I : tI) (J : tJ) (a0 : Int32) (a1 : Int32) : Int32 × tI × tJ :=
  (match f216 I J ((a0).toInt64) 0 99 with | (v1, I1, J1) => bif xcmp .eq v1 0 then (match f204_185 I1 J1 1 with | (v3, I3, J3) => (v3, I3, J3)) else (match f216 I1 J1 ((a1).toInt64) 0 20 with | (v4, I4, J4) => bif xcmp .ne v4 0 then (match f204_185 (tup (tup I4 186 6 a0) 186 7 a1) J4 0 with | (v6, I6, J6) => (v6, I6, J6)) else (match f204_185 I4 J4 1 with | (v7, I7, J7) => (v7, I7, J7))))
set_option maxRecDepth 100000 in
theorem f292_185_pq {sc : List Int32} {B : xM} {n : Nat} {I : tI} {J : tJ} {a0 : Int32} {a1 : Int32} (hB : kB pT B) : ∀ {q : Int32 × tI × tJ}, f292_185 I J a0 a1 = q → pq sc B n (xt_292, 3, 3) 0 [(0, .ref 185), (1, .int a0), (2, .int a1)] [] I J (fun v I1 J1 => v = some (.int q.1) ∧ I1 = q.2.1 ∧ J1 = q.2.2) := by
  intro q hq
  unfold f292_185 at hq
  refine pq_s hB 4 (pc' := 6) (L' := [(0, .ref 185), (1, .int a0), (2, .int a1)]) (st' := [.long 99, .long 0, .long (a0).toInt64]) (I' := I) (J' := J) (by with_unfolding_all rfl) ?_
  generalize hc1 : f216 I J ((a0).toInt64) 0 99 = q1 at hq
  obtain ⟨v1, _, _⟩ := q1
  dsimp only at hq
  refine pq_1 rfl rfl rfl rfl (f216_pq hB hc1) ?_
  rintro _ I1 J1 ⟨rfl, rfl, rfl⟩
  refine pq_ifn hB rfl (fun h2 => ?_) (fun h2 => ?_)
  · rw [h2, cond_true] at hq
    refine pq_s hB 2 (pc' := 26) (L' := [(0, .ref 185), (1, .int a0), (2, .int a1)]) (st' := [.int 1, .ref 185]) (I' := I1) (J' := J1) (by with_unfolding_all rfl) ?_
    generalize hc3 : f204_185 I1 J1 1 = q3 at hq
    obtain ⟨v3, _, _⟩ := q3
    dsimp only at hq
    refine pq_1 rfl rfl rfl rfl (f204_185_pq hB hc3) ?_
    rintro _ I3 J3 ⟨rfl, rfl, rfl⟩
    subst hq
    exact pq_2i (x := v3) rfl ⟨rfl, rfl, rfl⟩
  · rw [h2, cond_false] at hq
    refine pq_s hB 4 (pc' := 18) (L' := [(0, .ref 185), (1, .int a0), (2, .int a1)]) (st' := [.long 20, .long 0, .long (a1).toInt64]) (I' := I1) (J' := J1) (by with_unfolding_all rfl) ?_
    generalize hc4 : f216 I1 J1 ((a1).toInt64) 0 20 = q4 at hq
    obtain ⟨v4, _, _⟩ := q4
    dsimp only at hq
    refine pq_1 rfl rfl rfl rfl (f216_pq hB hc4) ?_
    rintro _ I4 J4 ⟨rfl, rfl, rfl⟩
    refine pq_ifn hB rfl (fun h5 => ?_) (fun h5 => ?_)
    · rw [h5, cond_true] at hq
      refine pq_s hB 12 (pc' := 48) (L' := [(0, .ref 185), (1, .int a0), (2, .int a1)]) (st' := [.int 0, .ref 185]) (I' := (tup (tup I4 186 6 a0) 186 7 a1)) (J' := J4) (by with_unfolding_all rfl) ?_
      generalize hc6 : f204_185 (tup (tup I4 186 6 a0) 186 7 a1) J4 0 = q6 at hq
      obtain ⟨v6, _, _⟩ := q6
      dsimp only at hq
      refine pq_1 rfl rfl rfl rfl (f204_185_pq hB hc6) ?_
      rintro _ I6 J6 ⟨rfl, rfl, rfl⟩
      subst hq
      exact pq_2i (x := v6) rfl ⟨rfl, rfl, rfl⟩
    · rw [h5, cond_false] at hq
      refine pq_s hB 2 (pc' := 26) (L' := [(0, .ref 185), (1, .int a0), (2, .int a1)]) (st' := [.int 1, .ref 185]) (I' := I4) (J' := J4) (by with_unfolding_all rfl) ?_
      generalize hc7 : f204_185 I4 J4 1 = q7 at hq
      obtain ⟨v7, _, _⟩ := q7
      dsimp only at hq
      refine pq_1 rfl rfl rfl rfl (f204_185_pq hB hc7) ?_
      rintro _ I7 J7 ⟨rfl, rfl, rfl⟩
      subst hq
      exact pq_2i (x := v7) rfl ⟨rfl, rfl, rfl⟩
-- LPModel.teach
def f294_185 (I : tI) (J : tJ) (a0 : Int32) (a1 : Int32) (a2 : Int32) : Int32 × tI × tJ :=
  (match f254_185 I J a0 with | (v1, I1, J1) => bif xcmp .eq v1 0 then (match f204_185 I1 J1 1 with | (v3, I3, J3) => (v3, I3, J3)) else (match f260_185 I1 J1 a0 3 with | (v4, I4, J4) => (match f216 I4 J4 ((a1).toInt64) 0 (((v4).toInt64) - 1) with | (v5, I5, J5) => bif xcmp .eq v5 0 then (match f204_185 I5 J5 1 with | (v7, I7, J7) => (v7, I7, J7)) else (match f216 I5 J5 ((a2).toInt64) 0 4 with | (v8, I8, J8) => bif xcmp .ne v8 0 then (match f251 I8 J8 a0 with | (v10, I10, J10) => (match f204_185 (tup I10 186 ((((v10 + 6) + a1)).toNatClampNeg) a2) J10 0 with | (v11, I11, J11) => (v11, I11, J11))) else (match f204_185 I8 J8 1 with | (v12, I12, J12) => (v12, I12, J12))))))
set_option maxRecDepth 100000 in
theorem f294_185_pq {sc : List Int32} {B : xM} {n : Nat} {I : tI} {J : tJ} {a0 : Int32} {a1 : Int32} {a2 : Int32} (hB : kB pT B) : ∀ {q : Int32 × tI × tJ}, f294_185 I J a0 a1 a2 = q → pq sc B n (xt_294, 4, 3) 0 [(0, .ref 185), (1, .int a0), (2, .int a1), (3, .int a2)] [] I J (fun v I1 J1 => v = some (.int q.1) ∧ I1 = q.2.1 ∧ J1 = q.2.2) := by
  intro q hq
  unfold f294_185 at hq
  refine pq_s hB 2 (pc' := 2) (L' := [(0, .ref 185), (1, .int a0), (2, .int a1), (3, .int a2)]) (st' := [.int a0, .ref 185]) (I' := I) (J' := J) (by with_unfolding_all rfl) ?_
  generalize hc1 : f254_185 I J a0 = q1 at hq
  obtain ⟨v1, _, _⟩ := q1
  dsimp only at hq
  refine pq_1 rfl rfl rfl rfl (f254_185_pq hB hc1) ?_
  rintro _ I1 J1 ⟨rfl, rfl, rfl⟩
  refine pq_ifn hB rfl (fun h2 => ?_) (fun h2 => ?_)
  · rw [h2, cond_true] at hq
    refine pq_s hB 2 (pc' := 40) (L' := [(0, .ref 185), (1, .int a0), (2, .int a1), (3, .int a2)]) (st' := [.int 1, .ref 185]) (I' := I1) (J' := J1) (by with_unfolding_all rfl) ?_
    generalize hc3 : f204_185 I1 J1 1 = q3 at hq
    obtain ⟨v3, _, _⟩ := q3
    dsimp only at hq
    refine pq_1 rfl rfl rfl rfl (f204_185_pq hB hc3) ?_
    rintro _ I3 J3 ⟨rfl, rfl, rfl⟩
    subst hq
    exact pq_2i (x := v3) rfl ⟨rfl, rfl, rfl⟩
  · rw [h2, cond_false] at hq
    refine pq_s hB 6 (pc' := 14) (L' := [(0, .ref 185), (1, .int a0), (2, .int a1), (3, .int a2)]) (st' := [.int 3, .int a0, .ref 185, .long 0, .long (a1).toInt64]) (I' := I1) (J' := J1) (by with_unfolding_all rfl) ?_
    generalize hc4 : f260_185 I1 J1 a0 3 = q4 at hq
    obtain ⟨v4, _, _⟩ := q4
    dsimp only at hq
    refine pq_1 rfl rfl rfl rfl (f260_185_pq hB hc4) ?_
    rintro _ I4 J4 ⟨rfl, rfl, rfl⟩
    refine pq_s hB 3 (pc' := 20) (L' := [(0, .ref 185), (1, .int a0), (2, .int a1), (3, .int a2)]) (st' := [.long (((v4).toInt64) - 1), .long 0, .long (a1).toInt64]) (I' := I4) (J' := J4) (by with_unfolding_all rfl) ?_
    generalize hc5 : f216 I4 J4 ((a1).toInt64) 0 (((v4).toInt64) - 1) = q5 at hq
    obtain ⟨v5, _, _⟩ := q5
    dsimp only at hq
    refine pq_1 rfl rfl rfl rfl (f216_pq hB hc5) ?_
    rintro _ I5 J5 ⟨rfl, rfl, rfl⟩
    refine pq_ifn hB rfl (fun h6 => ?_) (fun h6 => ?_)
    · rw [h6, cond_true] at hq
      refine pq_s hB 2 (pc' := 40) (L' := [(0, .ref 185), (1, .int a0), (2, .int a1), (3, .int a2)]) (st' := [.int 1, .ref 185]) (I' := I5) (J' := J5) (by with_unfolding_all rfl) ?_
      generalize hc7 : f204_185 I5 J5 1 = q7 at hq
      obtain ⟨v7, _, _⟩ := q7
      dsimp only at hq
      refine pq_1 rfl rfl rfl rfl (f204_185_pq hB hc7) ?_
      rintro _ I7 J7 ⟨rfl, rfl, rfl⟩
      subst hq
      exact pq_2i (x := v7) rfl ⟨rfl, rfl, rfl⟩
    · rw [h6, cond_false] at hq
      refine pq_s hB 4 (pc' := 32) (L' := [(0, .ref 185), (1, .int a0), (2, .int a1), (3, .int a2)]) (st' := [.long 4, .long 0, .long (a2).toInt64]) (I' := I5) (J' := J5) (by with_unfolding_all rfl) ?_
      generalize hc8 : f216 I5 J5 ((a2).toInt64) 0 4 = q8 at hq
      obtain ⟨v8, _, _⟩ := q8
      dsimp only at hq
      refine pq_1 rfl rfl rfl rfl (f216_pq hB hc8) ?_
      rintro _ I8 J8 ⟨rfl, rfl, rfl⟩
      refine pq_ifn hB rfl (fun h9 => ?_) (fun h9 => ?_)
      · rw [h9, cond_true] at hq
        refine pq_s hB 3 (pc' := 49) (L' := [(0, .ref 185), (1, .int a0), (2, .int a1), (3, .int a2)]) (st' := [.int a0, .ref 186]) (I' := I8) (J' := J8) (by with_unfolding_all rfl) ?_
        generalize hc10 : f251 I8 J8 a0 = q10 at hq
        obtain ⟨v10, _, _⟩ := q10
        dsimp only at hq
        refine pq_1 rfl rfl rfl rfl (f251_pq hB hc10) ?_
        rintro _ I10 J10 ⟨rfl, rfl, rfl⟩
        refine pq_s hB 8 (pc' := 61) (L' := [(0, .ref 185), (1, .int a0), (2, .int a1), (3, .int a2)]) (st' := [.int 0, .ref 185]) (I' := (tup I10 186 ((((v10 + 6) + a1)).toNatClampNeg) a2)) (J' := J10) (by with_unfolding_all rfl) ?_
        generalize hc11 : f204_185 (tup I10 186 ((((v10 + 6) + a1)).toNatClampNeg) a2) J10 0 = q11 at hq
        obtain ⟨v11, _, _⟩ := q11
        dsimp only at hq
        refine pq_1 rfl rfl rfl rfl (f204_185_pq hB hc11) ?_
        rintro _ I11 J11 ⟨rfl, rfl, rfl⟩
        subst hq
        exact pq_2i (x := v11) rfl ⟨rfl, rfl, rfl⟩
      · rw [h9, cond_false] at hq
        refine pq_s hB 2 (pc' := 40) (L' := [(0, .ref 185), (1, .int a0), (2, .int a1), (3, .int a2)]) (st' := [.int 1, .ref 185]) (I' := I8) (J' := J8) (by with_unfolding_all rfl) ?_
        generalize hc12 : f204_185 I8 J8 1 = q12 at hq
        obtain ⟨v12, _, _⟩ := q12
        dsimp only at hq
        refine pq_1 rfl rfl rfl rfl (f204_185_pq hB hc12) ?_
        rintro _ I12 J12 ⟨rfl, rfl, rfl⟩
        subst hq
        exact pq_2i (x := v12) rfl ⟨rfl, rfl, rfl⟩
-- LPModel.copies, the loop at 2, to [39]
def f349_185_l2 (N : Nat) : Nat → tI → tJ → Int32 → Int32 → Int32 → Option (Int32 × Int32 × Int32 × tI × tJ)
  | 0, _, _, _, _, _ => none
  | k + 1, I, J, x1, x2, x3 =>
    bif xcmp .ge x3 620 then some (x1, x2, x3, I, J) else f349_185_l2 N k (tup I 186 ((((620 * x2) + x3)).toNatClampNeg) (I 186 (((620 * x1) + x3)).toNatClampNeg)) J x1 x2 (x3 + 1)
set_option maxRecDepth 100000 in
theorem f349_185_l2_pq {sc : List Int32} {B : xM} {N : Nat} {P : Option Value → tI → tJ → Prop} (hB : kB pT B) : ∀ (k : Nat), k ≤ N → ∀ (b m : Nat), b ≤ k → b ≤ m → ∀ {I : tI} {J : tJ} {x1 : Int32} {x2 : Int32} {x3 : Int32} {Y : Option (Int32 × Int32 × Int32 × tI × tJ)}, f349_185_l2 N k I J x1 x2 x3 = Y → (∀ {y1 : Int32} {y2 : Int32} {y3 : Int32} {I1 : tI} {J1 : tJ}, Y = some (y1, y2, y3, I1, J1) → pq sc B m (xt_349, 4, 0) 39 [(0, .ref 185), (1, .int y1), (2, .int y2), (3, .int y3)] [] I1 J1 P) → pq sc B b (xt_349, 4, 0) 2 [(0, .ref 185), (1, .int x1), (2, .int x2), (3, .int x3)] [] I J P
  | 0, _, b, _, hb, _, _, _, _, _, _, _, _, _ => by
    have e : b = 0 := by omega
    subst e
    exact pq_zero
  | _ + 1, _, 0, _, _, _, _, _, _, _, _, _, _, _ => pq_zero
  | k + 1, hk, b + 1, m, hb, hm, I, J, x1, x2, x3, Y, hq, hx0 => by
    unfold f349_185_l2 at hq
    have hle : b ≤ N := by omega
    refine pq_s1 hB 1 (pc' := 6) (L' := [(0, .ref 185), (1, .int x1), (2, .int x2), (3, .int x3)]) (st' := [.int 620, .int x3]) (I' := I) (J' := J) (by with_unfolding_all rfl) ?_
    refine pq_icn hB rfl (fun h1 => ?_) (fun h1 => ?_)
    · rw [h1, cond_true] at hq
      exact pq_le (by omega) (hx0 hq.symm)
    · rw [h1, cond_false] at hq
      refine pq_s hB 18 (pc' := 2) (L' := [(3, .int (x3 + 1)), (0, .ref 185), (1, .int x1), (2, .int x2)]) (st' := []) (I' := (tup I 186 ((((620 * x2) + x3)).toNatClampNeg) (I 186 (((620 * x1) + x3)).toNatClampNeg))) (J' := J) (by with_unfolding_all rfl) ?_
      refine pq_perm (L := [(0, .ref 185), (1, .int x1), (2, .int x2), (3, .int (x3 + 1))]) (leqn_of ⟨rfl, rfl, rfl, rfl, trivial⟩ ⟨rfl, rfl, rfl, rfl, trivial⟩ ⟨rfl, rfl, rfl, rfl, trivial⟩) ?_
      exact f349_185_l2_pq hB k (by omega) b m (by omega) (by omega) hq hx0
-- LPModel.copies, the loop at 41, to [75]
def f349_185_l41 (N : Nat) : Nat → tI → tJ → Int32 → Int32 → Int32 → Option (Int32 × Int32 × Int32 × tI × tJ)
  | 0, _, _, _, _, _ => none
  | k + 1, I, J, x1, x2, x3 =>
    bif xcmp .ge x3 15 then some (x1, x2, x3, I, J) else f349_185_l41 N k I (tup J 187 ((((15 * x2) + x3)).toNatClampNeg) (J 187 (((15 * x1) + x3)).toNatClampNeg)) x1 x2 (x3 + 1)
set_option maxRecDepth 100000 in
theorem f349_185_l41_pq {sc : List Int32} {B : xM} {N : Nat} {P : Option Value → tI → tJ → Prop} (hB : kB pT B) : ∀ (k : Nat), k ≤ N → ∀ (b m : Nat), b ≤ k → b ≤ m → ∀ {I : tI} {J : tJ} {x1 : Int32} {x2 : Int32} {x3 : Int32} {Y : Option (Int32 × Int32 × Int32 × tI × tJ)}, f349_185_l41 N k I J x1 x2 x3 = Y → (∀ {y1 : Int32} {y2 : Int32} {y3 : Int32} {I1 : tI} {J1 : tJ}, Y = some (y1, y2, y3, I1, J1) → pq sc B m (xt_349, 4, 0) 75 [(0, .ref 185), (1, .int y1), (2, .int y2), (3, .int y3)] [] I1 J1 P) → pq sc B b (xt_349, 4, 0) 41 [(0, .ref 185), (1, .int x1), (2, .int x2), (3, .int x3)] [] I J P
  | 0, _, b, _, hb, _, _, _, _, _, _, _, _, _ => by
    have e : b = 0 := by omega
    subst e
    exact pq_zero
  | _ + 1, _, 0, _, _, _, _, _, _, _, _, _, _, _ => pq_zero
  | k + 1, hk, b + 1, m, hb, hm, I, J, x1, x2, x3, Y, hq, hx0 => by
    unfold f349_185_l41 at hq
    have hle : b ≤ N := by omega
    refine pq_s1 hB 1 (pc' := 44) (L' := [(0, .ref 185), (1, .int x1), (2, .int x2), (3, .int x3)]) (st' := [.int 15, .int x3]) (I' := I) (J' := J) (by with_unfolding_all rfl) ?_
    refine pq_icn hB rfl (fun h2 => ?_) (fun h2 => ?_)
    · rw [h2, cond_true] at hq
      exact pq_le (by omega) (hx0 hq.symm)
    · rw [h2, cond_false] at hq
      refine pq_s hB 18 (pc' := 41) (L' := [(3, .int (x3 + 1)), (0, .ref 185), (1, .int x1), (2, .int x2)]) (st' := []) (I' := I) (J' := (tup J 187 ((((15 * x2) + x3)).toNatClampNeg) (J 187 (((15 * x1) + x3)).toNatClampNeg))) (by with_unfolding_all rfl) ?_
      refine pq_perm (L := [(0, .ref 185), (1, .int x1), (2, .int x2), (3, .int (x3 + 1))]) (leqn_of ⟨rfl, rfl, rfl, rfl, trivial⟩ ⟨rfl, rfl, rfl, rfl, trivial⟩ ⟨rfl, rfl, rfl, rfl, trivial⟩) ?_
      exact f349_185_l41_pq hB k (by omega) b m (by omega) (by omega) hq hx0
-- LPModel.copies
def f349_185 (N : Nat) (I : tI) (J : tJ) (a0 : Int32) (a1 : Int32) : Option (Unit × tI × tJ) :=
  (match f349_185_l2 N N I J a0 a1 0 with | none => none | some (y1_1, y1_2, y1_3, I1, J1) => (match f349_185_l41 N N I1 J1 y1_1 y1_2 0 with | none => none | some (y2_1, y2_2, y2_3, I2, J2) => some ((), I2, J2)))
set_option maxRecDepth 100000 in
theorem f349_185_pq {sc : List Int32} {B : xM} {N : Nat} {I : tI} {J : tJ} {a0 : Int32} {a1 : Int32} (hB : kB pT B) : ∀ {X : Option (Unit × tI × tJ)}, f349_185 N I J a0 a1 = X → pq sc B N (xt_349, 4, 0) 0 [(0, .ref 185), (1, .int a0), (2, .int a1)] [] I J (fun v I1 J1 => v = none ∧ X = some ((), I1, J1)) := by
  intro X hq
  unfold f349_185 at hq
  have hle : N ≤ N := Nat.le_refl N
  refine pq_s hB 2 (pc' := 2) (L' := [(3, .int 0), (0, .ref 185), (1, .int a0), (2, .int a1)]) (st' := []) (I' := I) (J' := J) (by with_unfolding_all rfl) ?_
  refine pq_perm (L := [(0, .ref 185), (1, .int a0), (2, .int a1), (3, .int 0)]) (leqn_of ⟨rfl, rfl, rfl, rfl, trivial⟩ ⟨rfl, rfl, rfl, rfl, trivial⟩ ⟨rfl, rfl, rfl, rfl, trivial⟩) ?_
  refine f349_185_l2_pq hB N (Nat.le_refl N) N N hle (Nat.le_refl N) rfl ?_
  intro y1_1 y1_2 y1_3 I1 J1 hc1
  rw [hc1] at hq
  dsimp only at hq
  refine pq_s hB 2 (pc' := 41) (L' := [(3, .int 0), (0, .ref 185), (1, .int y1_1), (2, .int y1_2)]) (st' := []) (I' := I1) (J' := J1) (by with_unfolding_all rfl) ?_
  refine pq_perm (L := [(0, .ref 185), (1, .int y1_1), (2, .int y1_2), (3, .int 0)]) (leqn_of ⟨rfl, rfl, rfl, rfl, trivial⟩ ⟨rfl, rfl, rfl, rfl, trivial⟩ ⟨rfl, rfl, rfl, rfl, trivial⟩) ?_
  refine f349_185_l41_pq hB N (Nat.le_refl N) N N hle (Nat.le_refl N) rfl ?_
  intro y2_1 y2_2 y2_3 I2 J2 hc2
  rw [hc2] at hq
  dsimp only at hq
  subst hq
  exact pq_2 (v := none) rfl rfl (by with_unfolding_all rfl) ⟨rfl, rfl⟩
-- LPModel.mark
def f350_185 (N : Nat) (I : tI) (J : tJ) : Option (Int32 × tI × tJ) :=
  bif xcmp .ne (I 185 36) 3 then (match f349_185 N (tup I 185 36 ((I 185 36) + 1)) J 0 (((I 185 36) + 1)) with | none => none | some (_, I2, J2) => (match f206_185 I2 J2 (I2 185 36) with | (v3, I3, J3) => some (v3, I3, J3))) else (match f205_185 I J 4 with | (v4, I4, J4) => some (v4, I4, J4))
set_option maxRecDepth 100000 in
theorem f350_185_pq {sc : List Int32} {B : xM} {N : Nat} {I : tI} {J : tJ} (hB : kB pT B) : ∀ {X : Option (Int32 × tI × tJ)}, f350_185 N I J = X → pq sc B N (xt_350, 1, 1) 0 [(0, .ref 185)] [] I J (fun v I1 J1 => ∃ a, v = some (.int a) ∧ X = some (a, I1, J1)) := by
  intro X hq
  unfold f350_185 at hq
  have hle : N ≤ N := Nat.le_refl N
  refine pq_s hB 3 (pc' := 5) (L' := [(0, .ref 185)]) (st' := [.int 3, .int (I 185 36)]) (I' := I) (J' := J) (by with_unfolding_all rfl) ?_
  refine pq_icn hB rfl (fun h1 => ?_) (fun h1 => ?_)
  · rw [h1, cond_true] at hq
    refine pq_s hB 10 (pc' := 30) (L' := [(0, .ref 185)]) (st' := [.int (((I 185 36) + 1)), .int 0, .ref 185]) (I' := (tup I 185 36 ((I 185 36) + 1))) (J' := J) (by with_unfolding_all rfl) ?_
    refine pq_1 rfl rfl rfl rfl (pq_le hle (f349_185_pq hB rfl)) ?_
    rintro _ I2 J2 ⟨rfl, hc2⟩
    rw [hc2] at hq
    dsimp only at hq
    refine pq_s hB 3 (pc' := 38) (L' := [(0, .ref 185)]) (st' := [.int (I2 185 36), .ref 185]) (I' := I2) (J' := J2) (by with_unfolding_all rfl) ?_
    generalize hc3 : f206_185 I2 J2 (I2 185 36) = q3 at hq
    obtain ⟨v3, _, _⟩ := q3
    dsimp only at hq
    refine pq_1 rfl rfl rfl rfl (f206_185_pq hB hc3) ?_
    rintro _ I3 J3 ⟨rfl, rfl, rfl⟩
    subst hq
    exact pq_2i (x := v3) rfl ⟨_, rfl, rfl⟩
  · rw [h1, cond_false] at hq
    refine pq_s hB 2 (pc' := 10) (L' := [(0, .ref 185)]) (st' := [.int 4, .ref 185]) (I' := I) (J' := J) (by with_unfolding_all rfl) ?_
    generalize hc4 : f205_185 I J 4 = q4 at hq
    obtain ⟨v4, _, _⟩ := q4
    dsimp only at hq
    refine pq_1 rfl rfl rfl rfl (f205_185_pq hB hc4) ?_
    rintro _ I4 J4 ⟨rfl, rfl, rfl⟩
    subst hq
    exact pq_2i (x := v4) rfl ⟨_, rfl, rfl⟩
-- LPModel.undo
def f351_185 (N : Nat) (I : tI) (J : tJ) : Option (Int32 × tI × tJ) :=
  bif xcmp .ne (I 185 36) 0 then (match f349_185 N I J (I 185 36) 0 with | none => none | some (_, I2, J2) => (match f206_185 (tup I2 185 36 ((I2 185 36) - 1)) J2 (((I2 185 36) - 1)) with | (v3, I3, J3) => some (v3, I3, J3))) else (match f205_185 I J 6 with | (v4, I4, J4) => some (v4, I4, J4))
set_option maxRecDepth 100000 in
theorem f351_185_pq {sc : List Int32} {B : xM} {N : Nat} {I : tI} {J : tJ} (hB : kB pT B) : ∀ {X : Option (Int32 × tI × tJ)}, f351_185 N I J = X → pq sc B N (xt_351, 1, 1) 0 [(0, .ref 185)] [] I J (fun v I1 J1 => ∃ a, v = some (.int a) ∧ X = some (a, I1, J1)) := by
  intro X hq
  unfold f351_185 at hq
  have hle : N ≤ N := Nat.le_refl N
  refine pq_s hB 2 (pc' := 4) (L' := [(0, .ref 185)]) (st' := [.int (I 185 36)]) (I' := I) (J' := J) (by with_unfolding_all rfl) ?_
  refine pq_ifn hB rfl (fun h1 => ?_) (fun h1 => ?_)
  · rw [h1, cond_true] at hq
    refine pq_s hB 4 (pc' := 20) (L' := [(0, .ref 185)]) (st' := [.int 0, .int (I 185 36), .ref 185]) (I' := I) (J' := J) (by with_unfolding_all rfl) ?_
    refine pq_1 rfl rfl rfl rfl (pq_le hle (f349_185_pq hB rfl)) ?_
    rintro _ I2 J2 ⟨rfl, hc2⟩
    rw [hc2] at hq
    dsimp only at hq
    refine pq_s hB 9 (pc' := 38) (L' := [(0, .ref 185)]) (st' := [.int (((I2 185 36) - 1)), .ref 185]) (I' := (tup I2 185 36 ((I2 185 36) - 1))) (J' := J2) (by with_unfolding_all rfl) ?_
    generalize hc3 : f206_185 (tup I2 185 36 ((I2 185 36) - 1)) J2 (((I2 185 36) - 1)) = q3 at hq
    obtain ⟨v3, _, _⟩ := q3
    dsimp only at hq
    refine pq_1 rfl rfl rfl rfl (f206_185_pq hB hc3) ?_
    rintro _ I3 J3 ⟨rfl, rfl, rfl⟩
    subst hq
    exact pq_2i (x := v3) rfl ⟨_, rfl, rfl⟩
  · rw [h1, cond_false] at hq
    refine pq_s hB 2 (pc' := 10) (L' := [(0, .ref 185)]) (st' := [.int 6, .ref 185]) (I' := I) (J' := J) (by with_unfolding_all rfl) ?_
    generalize hc4 : f205_185 I J 6 = q4 at hq
    obtain ⟨v4, _, _⟩ := q4
    dsimp only at hq
    refine pq_1 rfl rfl rfl rfl (f205_185_pq hB hc4) ?_
    rintro _ I4 J4 ⟨rfl, rfl, rfl⟩
    subst hq
    exact pq_2i (x := v4) rfl ⟨_, rfl, rfl⟩
-- LPModel.priceOf
def f299_185 (I : tI) (J : tJ) (a0 : Int32) : Int32 × tI × tJ :=
  (match f216 I J ((a0).toInt64) 1 999 with | (v1, I1, J1) => bif xcmp .eq v1 0 then (match f205_185 I1 J1 1 with | (v3, I3, J3) => (v3, I3, J3)) else (match f270_185 I1 J1 a0 with | (v4, I4, J4) => (match f206_185 I4 J4 v4 with | (v5, I5, J5) => (v5, I5, J5))))
set_option maxRecDepth 100000 in
theorem f299_185_pq {sc : List Int32} {B : xM} {n : Nat} {I : tI} {J : tJ} {a0 : Int32} (hB : kB pT B) : ∀ {q : Int32 × tI × tJ}, f299_185 I J a0 = q → pq sc B n (xt_299, 2, 1) 0 [(0, .ref 185), (1, .int a0)] [] I J (fun v I1 J1 => v = some (.int q.1) ∧ I1 = q.2.1 ∧ J1 = q.2.2) := by
  intro q hq
  unfold f299_185 at hq
  refine pq_s hB 4 (pc' := 6) (L' := [(0, .ref 185), (1, .int a0)]) (st' := [.long 999, .long 1, .long (a0).toInt64]) (I' := I) (J' := J) (by with_unfolding_all rfl) ?_
  generalize hc1 : f216 I J ((a0).toInt64) 1 999 = q1 at hq
  obtain ⟨v1, _, _⟩ := q1
  dsimp only at hq
  refine pq_1 rfl rfl rfl rfl (f216_pq hB hc1) ?_
  rintro _ I1 J1 ⟨rfl, rfl, rfl⟩
  refine pq_ifn hB rfl (fun h2 => ?_) (fun h2 => ?_)
  · rw [h2, cond_true] at hq
    refine pq_s hB 2 (pc' := 26) (L' := [(0, .ref 185), (1, .int a0)]) (st' := [.int 1, .ref 185]) (I' := I1) (J' := J1) (by with_unfolding_all rfl) ?_
    generalize hc3 : f205_185 I1 J1 1 = q3 at hq
    obtain ⟨v3, _, _⟩ := q3
    dsimp only at hq
    refine pq_1 rfl rfl rfl rfl (f205_185_pq hB hc3) ?_
    rintro _ I3 J3 ⟨rfl, rfl, rfl⟩
    subst hq
    exact pq_2i (x := v3) rfl ⟨rfl, rfl, rfl⟩
  · rw [h2, cond_false] at hq
    refine pq_s hB 3 (pc' := 15) (L' := [(0, .ref 185), (1, .int a0)]) (st' := [.int a0, .ref 185, .ref 185]) (I' := I1) (J' := J1) (by with_unfolding_all rfl) ?_
    generalize hc4 : f270_185 I1 J1 a0 = q4 at hq
    obtain ⟨v4, _, _⟩ := q4
    dsimp only at hq
    refine pq_1 rfl rfl rfl rfl (f270_185_pq hB hc4) ?_
    rintro _ I4 J4 ⟨rfl, rfl, rfl⟩
    generalize hc5 : f206_185 I4 J4 v4 = q5 at hq
    obtain ⟨v5, _, _⟩ := q5
    dsimp only at hq
    refine pq_1 rfl rfl rfl rfl (f206_185_pq hB hc5) ?_
    rintro _ I5 J5 ⟨rfl, rfl, rfl⟩
    refine pq_s hB 1 (pc' := 29) (L' := [(0, .ref 185), (1, .int a0)]) (st' := [.int v5]) (I' := I5) (J' := J5) (by with_unfolding_all rfl) ?_
    subst hq
    exact pq_2i (x := v5) rfl ⟨rfl, rfl, rfl⟩
-- LPModel.stepOf
def f276_185 (I : tI) (J : tJ) (a0 : Int32) (a1 : Int32) : Int32 × tI × tJ :=
  (match f254_185 I J a0 with | (v1, I1, J1) => bif xcmp .ne v1 0 then (bif xcmp .lt a1 0 then (match f205_185 I1 J1 6 with | (v4, I4, J4) => (v4, I4, J4)) else (match f260_185 I1 J1 a0 3 with | (v5, I5, J5) => bif xcmp .lt a1 v5 then (match f260_185 I5 J5 a0 (6 + a1) with | (v7, I7, J7) => (match f206_185 I7 J7 v7 with | (v8, I8, J8) => (v8, I8, J8))) else (match f205_185 I5 J5 6 with | (v9, I9, J9) => (v9, I9, J9)))) else (match f205_185 I1 J1 1 with | (v10, I10, J10) => (v10, I10, J10)))
set_option maxRecDepth 100000 in
theorem f276_185_pq {sc : List Int32} {B : xM} {n : Nat} {I : tI} {J : tJ} {a0 : Int32} {a1 : Int32} (hB : kB pT B) : ∀ {q : Int32 × tI × tJ}, f276_185 I J a0 a1 = q → pq sc B n (xt_276, 3, 1) 0 [(0, .ref 185), (1, .int a0), (2, .int a1)] [] I J (fun v I1 J1 => v = some (.int q.1) ∧ I1 = q.2.1 ∧ J1 = q.2.2) := by
  intro q hq
  unfold f276_185 at hq
  refine pq_s hB 2 (pc' := 2) (L' := [(0, .ref 185), (1, .int a0), (2, .int a1)]) (st' := [.int a0, .ref 185]) (I' := I) (J' := J) (by with_unfolding_all rfl) ?_
  generalize hc1 : f254_185 I J a0 = q1 at hq
  obtain ⟨v1, _, _⟩ := q1
  dsimp only at hq
  refine pq_1 rfl rfl rfl rfl (f254_185_pq hB hc1) ?_
  rintro _ I1 J1 ⟨rfl, rfl, rfl⟩
  refine pq_ifn hB rfl (fun h2 => ?_) (fun h2 => ?_)
  · rw [h2, cond_true] at hq
    refine pq_s hB 1 (pc' := 17) (L' := [(0, .ref 185), (1, .int a0), (2, .int a1)]) (st' := [.int a1]) (I' := I1) (J' := J1) (by with_unfolding_all rfl) ?_
    refine pq_ifn hB rfl (fun h3 => ?_) (fun h3 => ?_)
    · rw [h3, cond_true] at hq
      refine pq_s hB 2 (pc' := 33) (L' := [(0, .ref 185), (1, .int a0), (2, .int a1)]) (st' := [.int 6, .ref 185]) (I' := I1) (J' := J1) (by with_unfolding_all rfl) ?_
      generalize hc4 : f205_185 I1 J1 6 = q4 at hq
      obtain ⟨v4, _, _⟩ := q4
      dsimp only at hq
      refine pq_1 rfl rfl rfl rfl (f205_185_pq hB hc4) ?_
      rintro _ I4 J4 ⟨rfl, rfl, rfl⟩
      refine pq_s hB 1 (pc' := 52) (L' := [(0, .ref 185), (1, .int a0), (2, .int a1)]) (st' := [.int v4]) (I' := I4) (J' := J4) (by with_unfolding_all rfl) ?_
      subst hq
      exact pq_2i (x := v4) rfl ⟨rfl, rfl, rfl⟩
    · rw [h3, cond_false] at hq
      refine pq_s hB 4 (pc' := 24) (L' := [(0, .ref 185), (1, .int a0), (2, .int a1)]) (st' := [.int 3, .int a0, .ref 185, .int a1]) (I' := I1) (J' := J1) (by with_unfolding_all rfl) ?_
      generalize hc5 : f260_185 I1 J1 a0 3 = q5 at hq
      obtain ⟨v5, _, _⟩ := q5
      dsimp only at hq
      refine pq_1 rfl rfl rfl rfl (f260_185_pq hB hc5) ?_
      rintro _ I5 J5 ⟨rfl, rfl, rfl⟩
      refine pq_icn hB rfl (fun h6 => ?_) (fun h6 => ?_)
      · rw [h6, cond_true] at hq
        refine pq_s hB 6 (pc' := 46) (L' := [(0, .ref 185), (1, .int a0), (2, .int a1)]) (st' := [.int (6 + a1), .int a0, .ref 185, .ref 185]) (I' := I5) (J' := J5) (by with_unfolding_all rfl) ?_
        generalize hc7 : f260_185 I5 J5 a0 (6 + a1) = q7 at hq
        obtain ⟨v7, _, _⟩ := q7
        dsimp only at hq
        refine pq_1 rfl rfl rfl rfl (f260_185_pq hB hc7) ?_
        rintro _ I7 J7 ⟨rfl, rfl, rfl⟩
        generalize hc8 : f206_185 I7 J7 v7 = q8 at hq
        obtain ⟨v8, _, _⟩ := q8
        dsimp only at hq
        refine pq_1 rfl rfl rfl rfl (f206_185_pq hB hc8) ?_
        rintro _ I8 J8 ⟨rfl, rfl, rfl⟩
        subst hq
        exact pq_2i (x := v8) rfl ⟨rfl, rfl, rfl⟩
      · rw [h6, cond_false] at hq
        refine pq_s hB 2 (pc' := 33) (L' := [(0, .ref 185), (1, .int a0), (2, .int a1)]) (st' := [.int 6, .ref 185]) (I' := I5) (J' := J5) (by with_unfolding_all rfl) ?_
        generalize hc9 : f205_185 I5 J5 6 = q9 at hq
        obtain ⟨v9, _, _⟩ := q9
        dsimp only at hq
        refine pq_1 rfl rfl rfl rfl (f205_185_pq hB hc9) ?_
        rintro _ I9 J9 ⟨rfl, rfl, rfl⟩
        refine pq_s hB 1 (pc' := 52) (L' := [(0, .ref 185), (1, .int a0), (2, .int a1)]) (st' := [.int v9]) (I' := I9) (J' := J9) (by with_unfolding_all rfl) ?_
        subst hq
        exact pq_2i (x := v9) rfl ⟨rfl, rfl, rfl⟩
  · rw [h2, cond_false] at hq
    refine pq_s hB 2 (pc' := 10) (L' := [(0, .ref 185), (1, .int a0), (2, .int a1)]) (st' := [.int 1, .ref 185]) (I' := I1) (J' := J1) (by with_unfolding_all rfl) ?_
    generalize hc10 : f205_185 I1 J1 1 = q10 at hq
    obtain ⟨v10, _, _⟩ := q10
    dsimp only at hq
    refine pq_1 rfl rfl rfl rfl (f205_185_pq hB hc10) ?_
    rintro _ I10 J10 ⟨rfl, rfl, rfl⟩
    refine pq_s hB 1 (pc' := 52) (L' := [(0, .ref 185), (1, .int a0), (2, .int a1)]) (st' := [.int v10]) (I' := I10) (J' := J10) (by with_unfolding_all rfl) ?_
    subst hq
    exact pq_2i (x := v10) rfl ⟨rfl, rfl, rfl⟩
-- LPModel.sight
def f277_185 (I : tI) (J : tJ) (a0 : Int32) (a1 : Int32) : Int32 × tI × tJ :=
  (match f255_185 I J a0 with | (v1, I1, J1) => bif xcmp .eq v1 0 then (match f205_185 I1 J1 1 with | (v3, I3, J3) => (v3, I3, J3)) else bif xcmp .lt a1 0 then (match f205_185 I1 J1 1 with | (v5, I5, J5) => (v5, I5, J5)) else bif xcmp .le a1 2 then (match f252 I1 J1 a0 with | (v7, I7, J7) => bif xcmp .ne a1 0 then (bif xcmp .ne (I7 186 (v7).toNatClampNeg) 2 then (bif xcmp .ne a1 2 then (match f206_185 I7 J7 (I7 186 ((v7 + a1)).toNatClampNeg) with | (v11, I11, J11) => (v11, I11, J11)) else bif xcmp .ne (I7 186 (v7).toNatClampNeg) 0 then (match f206_185 I7 J7 (I7 186 ((v7 + a1)).toNatClampNeg) with | (v13, I13, J13) => (v13, I13, J13)) else (match f263 I7 J7 (I7 186 ((v7 + 2)).toNatClampNeg) with | (v14, I14, J14) => (match f206_185 I14 J14 v14 with | (v15, I15, J15) => (v15, I15, J15)))) else (match f205_185 I7 J7 6 with | (v16, I16, J16) => (v16, I16, J16))) else (match f206_185 I7 J7 (I7 186 (v7).toNatClampNeg) with | (v17, I17, J17) => (v17, I17, J17))) else (match f205_185 I1 J1 1 with | (v18, I18, J18) => (v18, I18, J18)))
set_option maxRecDepth 100000 in
theorem f277_185_pq {sc : List Int32} {B : xM} {n : Nat} {I : tI} {J : tJ} {a0 : Int32} {a1 : Int32} (hB : kB pT B) : ∀ {q : Int32 × tI × tJ}, f277_185 I J a0 a1 = q → pq sc B n (xt_277, 4, 1) 0 [(0, .ref 185), (1, .int a0), (2, .int a1)] [] I J (fun v I1 J1 => v = some (.int q.1) ∧ I1 = q.2.1 ∧ J1 = q.2.2) := by
  intro q hq
  unfold f277_185 at hq
  refine pq_s hB 2 (pc' := 2) (L' := [(0, .ref 185), (1, .int a0), (2, .int a1)]) (st' := [.int a0, .ref 185]) (I' := I) (J' := J) (by with_unfolding_all rfl) ?_
  generalize hc1 : f255_185 I J a0 = q1 at hq
  obtain ⟨v1, _, _⟩ := q1
  dsimp only at hq
  refine pq_1 rfl rfl rfl rfl (f255_185_pq hB hc1) ?_
  rintro _ I1 J1 ⟨rfl, rfl, rfl⟩
  refine pq_ifn hB rfl (fun h2 => ?_) (fun h2 => ?_)
  · rw [h2, cond_true] at hq
    refine pq_s hB 2 (pc' := 19) (L' := [(0, .ref 185), (1, .int a0), (2, .int a1)]) (st' := [.int 1, .ref 185]) (I' := I1) (J' := J1) (by with_unfolding_all rfl) ?_
    generalize hc3 : f205_185 I1 J1 1 = q3 at hq
    obtain ⟨v3, _, _⟩ := q3
    dsimp only at hq
    refine pq_1 rfl rfl rfl rfl (f205_185_pq hB hc3) ?_
    rintro _ I3 J3 ⟨rfl, rfl, rfl⟩
    subst hq
    exact pq_2i (x := v3) rfl ⟨rfl, rfl, rfl⟩
  · rw [h2, cond_false] at hq
    refine pq_s hB 1 (pc' := 9) (L' := [(0, .ref 185), (1, .int a0), (2, .int a1)]) (st' := [.int a1]) (I' := I1) (J' := J1) (by with_unfolding_all rfl) ?_
    refine pq_ifn hB rfl (fun h4 => ?_) (fun h4 => ?_)
    · rw [h4, cond_true] at hq
      refine pq_s hB 2 (pc' := 19) (L' := [(0, .ref 185), (1, .int a0), (2, .int a1)]) (st' := [.int 1, .ref 185]) (I' := I1) (J' := J1) (by with_unfolding_all rfl) ?_
      generalize hc5 : f205_185 I1 J1 1 = q5 at hq
      obtain ⟨v5, _, _⟩ := q5
      dsimp only at hq
      refine pq_1 rfl rfl rfl rfl (f205_185_pq hB hc5) ?_
      rintro _ I5 J5 ⟨rfl, rfl, rfl⟩
      subst hq
      exact pq_2i (x := v5) rfl ⟨rfl, rfl, rfl⟩
    · rw [h4, cond_false] at hq
      refine pq_s hB 2 (pc' := 14) (L' := [(0, .ref 185), (1, .int a0), (2, .int a1)]) (st' := [.int 2, .int a1]) (I' := I1) (J' := J1) (by with_unfolding_all rfl) ?_
      refine pq_icn hB rfl (fun h6 => ?_) (fun h6 => ?_)
      · rw [h6, cond_true] at hq
        refine pq_s hB 1 (pc' := 24) (L' := [(0, .ref 185), (1, .int a0), (2, .int a1)]) (st' := [.int a0]) (I' := I1) (J' := J1) (by with_unfolding_all rfl) ?_
        generalize hc7 : f252 I1 J1 a0 = q7 at hq
        obtain ⟨v7, _, _⟩ := q7
        dsimp only at hq
        refine pq_1 rfl rfl rfl rfl (f252_pq hB hc7) ?_
        rintro _ I7 J7 ⟨rfl, rfl, rfl⟩
        refine pq_s hB 2 (pc' := 29) (L' := [(3, .int v7), (0, .ref 185), (1, .int a0), (2, .int a1)]) (st' := [.int a1]) (I' := I7) (J' := J7) (by with_unfolding_all rfl) ?_
        refine pq_ifn hB rfl (fun h8 => ?_) (fun h8 => ?_)
        · rw [h8, cond_true] at hq
          refine pq_s hB 5 (pc' := 50) (L' := [(3, .int v7), (0, .ref 185), (1, .int a0), (2, .int a1)]) (st' := [.int 2, .int (I7 186 (v7).toNatClampNeg)]) (I' := I7) (J' := J7) (by with_unfolding_all rfl) ?_
          refine pq_icn hB rfl (fun h9 => ?_) (fun h9 => ?_)
          · rw [h9, cond_true] at hq
            refine pq_s hB 3 (pc' := 65) (L' := [(3, .int v7), (0, .ref 185), (1, .int a0), (2, .int a1)]) (st' := [.int 2, .int a1, .ref 185]) (I' := I7) (J' := J7) (by with_unfolding_all rfl) ?_
            refine pq_icn hB rfl (fun h10 => ?_) (fun h10 => ?_)
            · rw [h10, cond_true] at hq
              refine pq_s hB 6 (pc' := 99) (L' := [(3, .int v7), (0, .ref 185), (1, .int a0), (2, .int a1)]) (st' := [.int (I7 186 ((v7 + a1)).toNatClampNeg), .ref 185]) (I' := I7) (J' := J7) (by with_unfolding_all rfl) ?_
              generalize hc11 : f206_185 I7 J7 (I7 186 ((v7 + a1)).toNatClampNeg) = q11 at hq
              obtain ⟨v11, _, _⟩ := q11
              dsimp only at hq
              refine pq_1 rfl rfl rfl rfl (f206_185_pq hB hc11) ?_
              rintro _ I11 J11 ⟨rfl, rfl, rfl⟩
              subst hq
              exact pq_2i (x := v11) rfl ⟨rfl, rfl, rfl⟩
            · rw [h10, cond_false] at hq
              refine pq_s hB 4 (pc' := 74) (L' := [(3, .int v7), (0, .ref 185), (1, .int a0), (2, .int a1)]) (st' := [.int (I7 186 (v7).toNatClampNeg), .ref 185]) (I' := I7) (J' := J7) (by with_unfolding_all rfl) ?_
              refine pq_ifn hB rfl (fun h12 => ?_) (fun h12 => ?_)
              · rw [h12, cond_true] at hq
                refine pq_s hB 6 (pc' := 99) (L' := [(3, .int v7), (0, .ref 185), (1, .int a0), (2, .int a1)]) (st' := [.int (I7 186 ((v7 + a1)).toNatClampNeg), .ref 185]) (I' := I7) (J' := J7) (by with_unfolding_all rfl) ?_
                generalize hc13 : f206_185 I7 J7 (I7 186 ((v7 + a1)).toNatClampNeg) = q13 at hq
                obtain ⟨v13, _, _⟩ := q13
                dsimp only at hq
                refine pq_1 rfl rfl rfl rfl (f206_185_pq hB hc13) ?_
                rintro _ I13 J13 ⟨rfl, rfl, rfl⟩
                subst hq
                exact pq_2i (x := v13) rfl ⟨rfl, rfl, rfl⟩
              · rw [h12, cond_false] at hq
                refine pq_s hB 6 (pc' := 85) (L' := [(3, .int v7), (0, .ref 185), (1, .int a0), (2, .int a1)]) (st' := [.int (I7 186 ((v7 + 2)).toNatClampNeg), .ref 185]) (I' := I7) (J' := J7) (by with_unfolding_all rfl) ?_
                generalize hc14 : f263 I7 J7 (I7 186 ((v7 + 2)).toNatClampNeg) = q14 at hq
                obtain ⟨v14, _, _⟩ := q14
                dsimp only at hq
                refine pq_1 rfl rfl rfl rfl (f263_pq hB hc14) ?_
                rintro _ I14 J14 ⟨rfl, rfl, rfl⟩
                refine pq_s hB 1 (pc' := 99) (L' := [(3, .int v7), (0, .ref 185), (1, .int a0), (2, .int a1)]) (st' := [.int v14, .ref 185]) (I' := I14) (J' := J14) (by with_unfolding_all rfl) ?_
                generalize hc15 : f206_185 I14 J14 v14 = q15 at hq
                obtain ⟨v15, _, _⟩ := q15
                dsimp only at hq
                refine pq_1 rfl rfl rfl rfl (f206_185_pq hB hc15) ?_
                rintro _ I15 J15 ⟨rfl, rfl, rfl⟩
                subst hq
                exact pq_2i (x := v15) rfl ⟨rfl, rfl, rfl⟩
          · rw [h9, cond_false] at hq
            refine pq_s hB 2 (pc' := 56) (L' := [(3, .int v7), (0, .ref 185), (1, .int a0), (2, .int a1)]) (st' := [.int 6, .ref 185]) (I' := I7) (J' := J7) (by with_unfolding_all rfl) ?_
            generalize hc16 : f205_185 I7 J7 6 = q16 at hq
            obtain ⟨v16, _, _⟩ := q16
            dsimp only at hq
            refine pq_1 rfl rfl rfl rfl (f205_185_pq hB hc16) ?_
            rintro _ I16 J16 ⟨rfl, rfl, rfl⟩
            refine pq_s hB 1 (pc' := 102) (L' := [(3, .int v7), (0, .ref 185), (1, .int a0), (2, .int a1)]) (st' := [.int v16]) (I' := I16) (J' := J16) (by with_unfolding_all rfl) ?_
            subst hq
            exact pq_2i (x := v16) rfl ⟨rfl, rfl, rfl⟩
        · rw [h8, cond_false] at hq
          refine pq_s hB 5 (pc' := 39) (L' := [(3, .int v7), (0, .ref 185), (1, .int a0), (2, .int a1)]) (st' := [.int (I7 186 (v7).toNatClampNeg), .ref 185]) (I' := I7) (J' := J7) (by with_unfolding_all rfl) ?_
          generalize hc17 : f206_185 I7 J7 (I7 186 (v7).toNatClampNeg) = q17 at hq
          obtain ⟨v17, _, _⟩ := q17
          dsimp only at hq
          refine pq_1 rfl rfl rfl rfl (f206_185_pq hB hc17) ?_
          rintro _ I17 J17 ⟨rfl, rfl, rfl⟩
          subst hq
          exact pq_2i (x := v17) rfl ⟨rfl, rfl, rfl⟩
      · rw [h6, cond_false] at hq
        refine pq_s hB 2 (pc' := 19) (L' := [(0, .ref 185), (1, .int a0), (2, .int a1)]) (st' := [.int 1, .ref 185]) (I' := I1) (J' := J1) (by with_unfolding_all rfl) ?_
        generalize hc18 : f205_185 I1 J1 1 = q18 at hq
        obtain ⟨v18, _, _⟩ := q18
        dsimp only at hq
        refine pq_1 rfl rfl rfl rfl (f205_185_pq hB hc18) ?_
        rintro _ I18 J18 ⟨rfl, rfl, rfl⟩
        subst hq
        exact pq_2i (x := v18) rfl ⟨rfl, rfl, rfl⟩

