/-! PURE FUNCTIONS OF METHODS -/
-- LP.isWithin
def f127 (I : tI) (J : tJ) (a0 : Int32) (a1 : Int32) (a2 : Int32) : Int32 × tI × tJ :=
  bif xcmp .lt a0 a1 then (0, I, J) else bif xcmp .gt a0 a2 then (0, I, J) else (1, I, J)
set_option maxRecDepth 100000 in
theorem f127_pq {sc : List Int32} {B : xM} {n : Nat} {I : tI} {J : tJ} {a0 : Int32} {a1 : Int32} {a2 : Int32} (hB : kB pT B) : ∀ {q : Int32 × tI × tJ}, f127 I J a0 a1 a2 = q → pq sc B n (xt_127, 3, 3) 0 [(0, .int a0), (1, .int a1), (2, .int a2)] [] I J (fun v I1 J1 => v = some (.int q.1) ∧ I1 = q.2.1 ∧ J1 = q.2.2) := by
  intro q hq
  unfold f127 at hq
  refine pq_s hB 2 (pc' := 2) (L' := [(0, .int a0), (1, .int a1), (2, .int a2)]) (st' := [.int a1, .int a0]) (I' := I) (J' := J) (by with_unfolding_all rfl) ?_
  refine pq_icn hB rfl (fun h1 => ?_) (fun h1 => ?_)
  · rw [h1, cond_true] at hq
    refine pq_s hB 1 (pc' := 15) (L' := [(0, .int a0), (1, .int a1), (2, .int a2)]) (st' := [.int 0]) (I' := I) (J' := J) (by with_unfolding_all rfl) ?_
    subst hq
    exact pq_2i (x := 0) rfl ⟨rfl, rfl, rfl⟩
  · rw [h1, cond_false] at hq
    refine pq_s hB 2 (pc' := 7) (L' := [(0, .int a0), (1, .int a1), (2, .int a2)]) (st' := [.int a2, .int a0]) (I' := I) (J' := J) (by with_unfolding_all rfl) ?_
    refine pq_icn hB rfl (fun h2 => ?_) (fun h2 => ?_)
    · rw [h2, cond_true] at hq
      refine pq_s hB 1 (pc' := 15) (L' := [(0, .int a0), (1, .int a1), (2, .int a2)]) (st' := [.int 0]) (I' := I) (J' := J) (by with_unfolding_all rfl) ?_
      subst hq
      exact pq_2i (x := 0) rfl ⟨rfl, rfl, rfl⟩
    · rw [h2, cond_false] at hq
      refine pq_s hB 2 (pc' := 15) (L' := [(0, .int a0), (1, .int a1), (2, .int a2)]) (st' := [.int 1]) (I' := I) (J' := J) (by with_unfolding_all rfl) ?_
      subst hq
      exact pq_2i (x := 1) rfl ⟨rfl, rfl, rfl⟩
-- LP.isTray
def f133 (I : tI) (J : tJ) (a0 : Int32) : Int32 × tI × tJ :=
  (match f127 I J a0 0 3 with | (v1, I1, J1) => (v1, I1, J1))
set_option maxRecDepth 100000 in
theorem f133_pq {sc : List Int32} {B : xM} {n : Nat} {I : tI} {J : tJ} {a0 : Int32} (hB : kB pT B) : ∀ {q : Int32 × tI × tJ}, f133 I J a0 = q → pq sc B n (xt_133, 1, 3) 0 [(0, .int a0)] [] I J (fun v I1 J1 => v = some (.int q.1) ∧ I1 = q.2.1 ∧ J1 = q.2.2) := by
  intro q hq
  unfold f133 at hq
  refine pq_s hB 3 (pc' := 3) (L' := [(0, .int a0)]) (st' := [.int 3, .int 0, .int a0]) (I' := I) (J' := J) (by with_unfolding_all rfl) ?_
  generalize hc1 : f127 I J a0 0 3 = q1 at hq
  obtain ⟨v1, _, _⟩ := q1
  dsimp only at hq
  refine pq_1 rfl rfl rfl rfl (f127_pq hB hc1) ?_
  rintro _ I1 J1 ⟨rfl, rfl, rfl⟩
  subst hq
  exact pq_2i (x := v1) rfl ⟨rfl, rfl, rfl⟩
-- LP.reject
def f124_0 (I : tI) (J : tJ) (a0 : Int32) : Int32 × tI × tJ :=
  (0, (tup I 0 5 a0), J)
set_option maxRecDepth 100000 in
theorem f124_0_pq {sc : List Int32} {B : xM} {n : Nat} {I : tI} {J : tJ} {a0 : Int32} (hB : kB pT B) : ∀ {q : Int32 × tI × tJ}, f124_0 I J a0 = q → pq sc B n (xt_124, 2, 3) 0 [(0, .ref 0), (1, .int a0)] [] I J (fun v I1 J1 => v = some (.int q.1) ∧ I1 = q.2.1 ∧ J1 = q.2.2) := by
  intro q hq
  unfold f124_0 at hq
  refine pq_s hB 4 (pc' := 6) (L' := [(0, .ref 0), (1, .int a0)]) (st' := [.int 0]) (I' := (tup I 0 5 a0)) (J' := J) (by with_unfolding_all rfl) ?_
  subst hq
  exact pq_2i (x := 0) rfl ⟨rfl, rfl, rfl⟩
-- Arrays.fill, the loop at 6, to [22]
def f354_2_l6 (N : Nat) : Nat → tI → tJ → Int64 → Int32 → Int32 → Option (Int64 × Int32 × Int32 × tI × tJ)
  | 0, _, _, _, _, _ => none
  | k + 1, I, J, x1, x3, x4 =>
    bif xcmp .ge x3 x4 then some (x1, x3, x4, I, J) else f354_2_l6 N k I (tup J 2 ((x3).toNatClampNeg) x1) x1 (x3 + 1) x4
set_option maxRecDepth 100000 in
theorem f354_2_l6_pq {sc : List Int32} {B : xM} {N : Nat} {P : Option Value → tI → tJ → Prop} (hB : kB pT B) : ∀ (k : Nat), k ≤ N → ∀ (b m : Nat), b ≤ k → b ≤ m → ∀ {I : tI} {J : tJ} {x1 : Int64} {x3 : Int32} {x4 : Int32} {Y : Option (Int64 × Int32 × Int32 × tI × tJ)}, f354_2_l6 N k I J x1 x3 x4 = Y → (∀ {y1 : Int64} {y3 : Int32} {y4 : Int32} {I1 : tI} {J1 : tJ}, Y = some (y1, y3, y4, I1, J1) → pq sc B m (xt_354, 5, 0) 22 [(0, .ref 2), (1, .long y1), (3, .int y3), (4, .int y4)] [] I1 J1 P) → pq sc B b (xt_354, 5, 0) 6 [(0, .ref 2), (1, .long x1), (3, .int x3), (4, .int x4)] [] I J P
  | 0, _, b, _, hb, _, _, _, _, _, _, _, _, _ => by
    have e : b = 0 := by omega
    subst e
    exact pq_zero
  | _ + 1, _, 0, _, _, _, _, _, _, _, _, _, _, _ => pq_zero
  | k + 1, hk, b + 1, m, hb, hm, I, J, x1, x3, x4, Y, hq, hx0 => by
    unfold f354_2_l6 at hq
    have hle : b ≤ N := by omega
    refine pq_s1 hB 1 (pc' := 9) (L' := [(0, .ref 2), (1, .long x1), (3, .int x3), (4, .int x4)]) (st' := [.int x4, .int x3]) (I' := I) (J' := J) (by with_unfolding_all rfl) ?_
    refine pq_icn hB rfl (fun h1 => ?_) (fun h1 => ?_)
    · rw [h1, cond_true] at hq
      exact pq_le (by omega) (hx0 hq.symm)
    · rw [h1, cond_false] at hq
      refine pq_s hB 6 (pc' := 6) (L' := [(3, .int (x3 + 1)), (0, .ref 2), (1, .long x1), (4, .int x4)]) (st' := []) (I' := I) (J' := (tup J 2 ((x3).toNatClampNeg) x1)) (by with_unfolding_all rfl) ?_
      refine pq_perm (L := [(0, .ref 2), (1, .long x1), (3, .int (x3 + 1)), (4, .int x4)]) (leqn_of ⟨rfl, rfl, rfl, rfl, trivial⟩ ⟨rfl, rfl, rfl, rfl, trivial⟩ ⟨rfl, rfl, rfl, rfl, trivial⟩) ?_
      exact f354_2_l6_pq hB k (by omega) b m (by omega) (by omega) hq hx0
-- Arrays.fill
def f354_2 (N : Nat) (I : tI) (J : tJ) (a0 : Int64) : Option (Unit × tI × tJ) :=
  (match f354_2_l6 N N I J a0 0 60 with | none => none | some (y1_1, y1_3, y1_4, I1, J1) => some ((), I1, J1))
set_option maxRecDepth 100000 in
theorem f354_2_pq {sc : List Int32} {B : xM} {N : Nat} {I : tI} {J : tJ} {a0 : Int64} (hB : kB pT B) : ∀ {X : Option (Unit × tI × tJ)}, f354_2 N I J a0 = X → pq sc B N (xt_354, 5, 0) 0 [(0, .ref 2), (1, .long a0)] [] I J (fun v I1 J1 => v = none ∧ X = some ((), I1, J1)) := by
  intro X hq
  unfold f354_2 at hq
  have hle : N ≤ N := Nat.le_refl N
  refine pq_s hB 5 (pc' := 6) (L' := [(4, .int 60), (3, .int 0), (0, .ref 2), (1, .long a0)]) (st' := []) (I' := I) (J' := J) (by with_unfolding_all rfl) ?_
  refine pq_perm (L := [(0, .ref 2), (1, .long a0), (3, .int 0), (4, .int 60)]) (leqn_of ⟨rfl, rfl, rfl, rfl, trivial⟩ ⟨rfl, rfl, rfl, rfl, trivial⟩ ⟨rfl, rfl, rfl, rfl, trivial⟩) ?_
  refine f354_2_l6_pq hB N (Nat.le_refl N) N N hle (Nat.le_refl N) rfl ?_
  intro y1_1 y1_3 y1_4 I1 J1 hc1
  rw [hc1] at hq
  dsimp only at hq
  subst hq
  exact pq_2 (v := none) rfl rfl (by with_unfolding_all rfl) ⟨rfl, rfl⟩
-- LP.accept
def f123_0 (I : tI) (J : tJ) : Int32 × tI × tJ :=
  (1, (tup I 0 5 0), J)
set_option maxRecDepth 100000 in
theorem f123_0_pq {sc : List Int32} {B : xM} {n : Nat} {I : tI} {J : tJ} (hB : kB pT B) : ∀ {q : Int32 × tI × tJ}, f123_0 I J = q → pq sc B n (xt_123, 1, 3) 0 [(0, .ref 0)] [] I J (fun v I1 J1 => v = some (.int q.1) ∧ I1 = q.2.1 ∧ J1 = q.2.2) := by
  intro q hq
  unfold f123_0 at hq
  refine pq_s hB 4 (pc' := 6) (L' := [(0, .ref 0)]) (st' := [.int 1]) (I' := (tup I 0 5 0)) (J' := J) (by with_unfolding_all rfl) ?_
  subst hq
  exact pq_2i (x := 1) rfl ⟨rfl, rfl, rfl⟩
-- Arrays.fill, the loop at 6, to [22]
def f354_3_l6 (N : Nat) : Nat → tI → tJ → Int64 → Int32 → Int32 → Option (Int64 × Int32 × Int32 × tI × tJ)
  | 0, _, _, _, _, _ => none
  | k + 1, I, J, x1, x3, x4 =>
    bif xcmp .ge x3 x4 then some (x1, x3, x4, I, J) else f354_3_l6 N k I (tup J 3 ((x3).toNatClampNeg) x1) x1 (x3 + 1) x4
set_option maxRecDepth 100000 in
theorem f354_3_l6_pq {sc : List Int32} {B : xM} {N : Nat} {P : Option Value → tI → tJ → Prop} (hB : kB pT B) : ∀ (k : Nat), k ≤ N → ∀ (b m : Nat), b ≤ k → b ≤ m → ∀ {I : tI} {J : tJ} {x1 : Int64} {x3 : Int32} {x4 : Int32} {Y : Option (Int64 × Int32 × Int32 × tI × tJ)}, f354_3_l6 N k I J x1 x3 x4 = Y → (∀ {y1 : Int64} {y3 : Int32} {y4 : Int32} {I1 : tI} {J1 : tJ}, Y = some (y1, y3, y4, I1, J1) → pq sc B m (xt_354, 5, 0) 22 [(0, .ref 3), (1, .long y1), (3, .int y3), (4, .int y4)] [] I1 J1 P) → pq sc B b (xt_354, 5, 0) 6 [(0, .ref 3), (1, .long x1), (3, .int x3), (4, .int x4)] [] I J P
  | 0, _, b, _, hb, _, _, _, _, _, _, _, _, _ => by
    have e : b = 0 := by omega
    subst e
    exact pq_zero
  | _ + 1, _, 0, _, _, _, _, _, _, _, _, _, _, _ => pq_zero
  | k + 1, hk, b + 1, m, hb, hm, I, J, x1, x3, x4, Y, hq, hx0 => by
    unfold f354_3_l6 at hq
    have hle : b ≤ N := by omega
    refine pq_s1 hB 1 (pc' := 9) (L' := [(0, .ref 3), (1, .long x1), (3, .int x3), (4, .int x4)]) (st' := [.int x4, .int x3]) (I' := I) (J' := J) (by with_unfolding_all rfl) ?_
    refine pq_icn hB rfl (fun h1 => ?_) (fun h1 => ?_)
    · rw [h1, cond_true] at hq
      exact pq_le (by omega) (hx0 hq.symm)
    · rw [h1, cond_false] at hq
      refine pq_s hB 6 (pc' := 6) (L' := [(3, .int (x3 + 1)), (0, .ref 3), (1, .long x1), (4, .int x4)]) (st' := []) (I' := I) (J' := (tup J 3 ((x3).toNatClampNeg) x1)) (by with_unfolding_all rfl) ?_
      refine pq_perm (L := [(0, .ref 3), (1, .long x1), (3, .int (x3 + 1)), (4, .int x4)]) (leqn_of ⟨rfl, rfl, rfl, rfl, trivial⟩ ⟨rfl, rfl, rfl, rfl, trivial⟩ ⟨rfl, rfl, rfl, rfl, trivial⟩) ?_
      exact f354_3_l6_pq hB k (by omega) b m (by omega) (by omega) hq hx0
-- Arrays.fill
def f354_3 (N : Nat) (I : tI) (J : tJ) (a0 : Int64) : Option (Unit × tI × tJ) :=
  (match f354_3_l6 N N I J a0 0 60 with | none => none | some (y1_1, y1_3, y1_4, I1, J1) => some ((), I1, J1))
set_option maxRecDepth 100000 in
theorem f354_3_pq {sc : List Int32} {B : xM} {N : Nat} {I : tI} {J : tJ} {a0 : Int64} (hB : kB pT B) : ∀ {X : Option (Unit × tI × tJ)}, f354_3 N I J a0 = X → pq sc B N (xt_354, 5, 0) 0 [(0, .ref 3), (1, .long a0)] [] I J (fun v I1 J1 => v = none ∧ X = some ((), I1, J1)) := by
  intro X hq
  unfold f354_3 at hq
  have hle : N ≤ N := Nat.le_refl N
  refine pq_s hB 5 (pc' := 6) (L' := [(4, .int 60), (3, .int 0), (0, .ref 3), (1, .long a0)]) (st' := []) (I' := I) (J' := J) (by with_unfolding_all rfl) ?_
  refine pq_perm (L := [(0, .ref 3), (1, .long a0), (3, .int 0), (4, .int 60)]) (leqn_of ⟨rfl, rfl, rfl, rfl, trivial⟩ ⟨rfl, rfl, rfl, rfl, trivial⟩ ⟨rfl, rfl, rfl, rfl, trivial⟩) ?_
  refine f354_3_l6_pq hB N (Nat.le_refl N) N N hle (Nat.le_refl N) rfl ?_
  intro y1_1 y1_3 y1_4 I1 J1 hc1
  rw [hc1] at hq
  dsimp only at hq
  subst hq
  exact pq_2 (v := none) rfl rfl (by with_unfolding_all rfl) ⟨rfl, rfl⟩
-- Arrays.fill, the loop at 6, to [22]
def f354_4_l6 (N : Nat) : Nat → tI → tJ → Int64 → Int32 → Int32 → Option (Int64 × Int32 × Int32 × tI × tJ)
  | 0, _, _, _, _, _ => none
  | k + 1, I, J, x1, x3, x4 =>
    bif xcmp .ge x3 x4 then some (x1, x3, x4, I, J) else f354_4_l6 N k I (tup J 4 ((x3).toNatClampNeg) x1) x1 (x3 + 1) x4
set_option maxRecDepth 100000 in
theorem f354_4_l6_pq {sc : List Int32} {B : xM} {N : Nat} {P : Option Value → tI → tJ → Prop} (hB : kB pT B) : ∀ (k : Nat), k ≤ N → ∀ (b m : Nat), b ≤ k → b ≤ m → ∀ {I : tI} {J : tJ} {x1 : Int64} {x3 : Int32} {x4 : Int32} {Y : Option (Int64 × Int32 × Int32 × tI × tJ)}, f354_4_l6 N k I J x1 x3 x4 = Y → (∀ {y1 : Int64} {y3 : Int32} {y4 : Int32} {I1 : tI} {J1 : tJ}, Y = some (y1, y3, y4, I1, J1) → pq sc B m (xt_354, 5, 0) 22 [(0, .ref 4), (1, .long y1), (3, .int y3), (4, .int y4)] [] I1 J1 P) → pq sc B b (xt_354, 5, 0) 6 [(0, .ref 4), (1, .long x1), (3, .int x3), (4, .int x4)] [] I J P
  | 0, _, b, _, hb, _, _, _, _, _, _, _, _, _ => by
    have e : b = 0 := by omega
    subst e
    exact pq_zero
  | _ + 1, _, 0, _, _, _, _, _, _, _, _, _, _, _ => pq_zero
  | k + 1, hk, b + 1, m, hb, hm, I, J, x1, x3, x4, Y, hq, hx0 => by
    unfold f354_4_l6 at hq
    have hle : b ≤ N := by omega
    refine pq_s1 hB 1 (pc' := 9) (L' := [(0, .ref 4), (1, .long x1), (3, .int x3), (4, .int x4)]) (st' := [.int x4, .int x3]) (I' := I) (J' := J) (by with_unfolding_all rfl) ?_
    refine pq_icn hB rfl (fun h1 => ?_) (fun h1 => ?_)
    · rw [h1, cond_true] at hq
      exact pq_le (by omega) (hx0 hq.symm)
    · rw [h1, cond_false] at hq
      refine pq_s hB 6 (pc' := 6) (L' := [(3, .int (x3 + 1)), (0, .ref 4), (1, .long x1), (4, .int x4)]) (st' := []) (I' := I) (J' := (tup J 4 ((x3).toNatClampNeg) x1)) (by with_unfolding_all rfl) ?_
      refine pq_perm (L := [(0, .ref 4), (1, .long x1), (3, .int (x3 + 1)), (4, .int x4)]) (leqn_of ⟨rfl, rfl, rfl, rfl, trivial⟩ ⟨rfl, rfl, rfl, rfl, trivial⟩ ⟨rfl, rfl, rfl, rfl, trivial⟩) ?_
      exact f354_4_l6_pq hB k (by omega) b m (by omega) (by omega) hq hx0
-- Arrays.fill
def f354_4 (N : Nat) (I : tI) (J : tJ) (a0 : Int64) : Option (Unit × tI × tJ) :=
  (match f354_4_l6 N N I J a0 0 60 with | none => none | some (y1_1, y1_3, y1_4, I1, J1) => some ((), I1, J1))
set_option maxRecDepth 100000 in
theorem f354_4_pq {sc : List Int32} {B : xM} {N : Nat} {I : tI} {J : tJ} {a0 : Int64} (hB : kB pT B) : ∀ {X : Option (Unit × tI × tJ)}, f354_4 N I J a0 = X → pq sc B N (xt_354, 5, 0) 0 [(0, .ref 4), (1, .long a0)] [] I J (fun v I1 J1 => v = none ∧ X = some ((), I1, J1)) := by
  intro X hq
  unfold f354_4 at hq
  have hle : N ≤ N := Nat.le_refl N
  refine pq_s hB 5 (pc' := 6) (L' := [(4, .int 60), (3, .int 0), (0, .ref 4), (1, .long a0)]) (st' := []) (I' := I) (J' := J) (by with_unfolding_all rfl) ?_
  refine pq_perm (L := [(0, .ref 4), (1, .long a0), (3, .int 0), (4, .int 60)]) (leqn_of ⟨rfl, rfl, rfl, rfl, trivial⟩ ⟨rfl, rfl, rfl, rfl, trivial⟩ ⟨rfl, rfl, rfl, rfl, trivial⟩) ?_
  refine f354_4_l6_pq hB N (Nat.le_refl N) N N hle (Nat.le_refl N) rfl ?_
  intro y1_1 y1_3 y1_4 I1 J1 hc1
  rw [hc1] at hq
  dsimp only at hq
  subst hq
  exact pq_2 (v := none) rfl rfl (by with_unfolding_all rfl) ⟨rfl, rfl⟩
-- Arrays.fill, the loop at 6, to [22]
def f354_5_l6 (N : Nat) : Nat → tI → tJ → Int64 → Int32 → Int32 → Option (Int64 × Int32 × Int32 × tI × tJ)
  | 0, _, _, _, _, _ => none
  | k + 1, I, J, x1, x3, x4 =>
    bif xcmp .ge x3 x4 then some (x1, x3, x4, I, J) else f354_5_l6 N k I (tup J 5 ((x3).toNatClampNeg) x1) x1 (x3 + 1) x4
set_option maxRecDepth 100000 in
theorem f354_5_l6_pq {sc : List Int32} {B : xM} {N : Nat} {P : Option Value → tI → tJ → Prop} (hB : kB pT B) : ∀ (k : Nat), k ≤ N → ∀ (b m : Nat), b ≤ k → b ≤ m → ∀ {I : tI} {J : tJ} {x1 : Int64} {x3 : Int32} {x4 : Int32} {Y : Option (Int64 × Int32 × Int32 × tI × tJ)}, f354_5_l6 N k I J x1 x3 x4 = Y → (∀ {y1 : Int64} {y3 : Int32} {y4 : Int32} {I1 : tI} {J1 : tJ}, Y = some (y1, y3, y4, I1, J1) → pq sc B m (xt_354, 5, 0) 22 [(0, .ref 5), (1, .long y1), (3, .int y3), (4, .int y4)] [] I1 J1 P) → pq sc B b (xt_354, 5, 0) 6 [(0, .ref 5), (1, .long x1), (3, .int x3), (4, .int x4)] [] I J P
  | 0, _, b, _, hb, _, _, _, _, _, _, _, _, _ => by
    have e : b = 0 := by omega
    subst e
    exact pq_zero
  | _ + 1, _, 0, _, _, _, _, _, _, _, _, _, _, _ => pq_zero
  | k + 1, hk, b + 1, m, hb, hm, I, J, x1, x3, x4, Y, hq, hx0 => by
    unfold f354_5_l6 at hq
    have hle : b ≤ N := by omega
    refine pq_s1 hB 1 (pc' := 9) (L' := [(0, .ref 5), (1, .long x1), (3, .int x3), (4, .int x4)]) (st' := [.int x4, .int x3]) (I' := I) (J' := J) (by with_unfolding_all rfl) ?_
    refine pq_icn hB rfl (fun h1 => ?_) (fun h1 => ?_)
    · rw [h1, cond_true] at hq
      exact pq_le (by omega) (hx0 hq.symm)
    · rw [h1, cond_false] at hq
      refine pq_s hB 6 (pc' := 6) (L' := [(3, .int (x3 + 1)), (0, .ref 5), (1, .long x1), (4, .int x4)]) (st' := []) (I' := I) (J' := (tup J 5 ((x3).toNatClampNeg) x1)) (by with_unfolding_all rfl) ?_
      refine pq_perm (L := [(0, .ref 5), (1, .long x1), (3, .int (x3 + 1)), (4, .int x4)]) (leqn_of ⟨rfl, rfl, rfl, rfl, trivial⟩ ⟨rfl, rfl, rfl, rfl, trivial⟩ ⟨rfl, rfl, rfl, rfl, trivial⟩) ?_
      exact f354_5_l6_pq hB k (by omega) b m (by omega) (by omega) hq hx0
-- Arrays.fill
def f354_5 (N : Nat) (I : tI) (J : tJ) (a0 : Int64) : Option (Unit × tI × tJ) :=
  (match f354_5_l6 N N I J a0 0 60 with | none => none | some (y1_1, y1_3, y1_4, I1, J1) => some ((), I1, J1))
set_option maxRecDepth 100000 in
theorem f354_5_pq {sc : List Int32} {B : xM} {N : Nat} {I : tI} {J : tJ} {a0 : Int64} (hB : kB pT B) : ∀ {X : Option (Unit × tI × tJ)}, f354_5 N I J a0 = X → pq sc B N (xt_354, 5, 0) 0 [(0, .ref 5), (1, .long a0)] [] I J (fun v I1 J1 => v = none ∧ X = some ((), I1, J1)) := by
  intro X hq
  unfold f354_5 at hq
  have hle : N ≤ N := Nat.le_refl N
  refine pq_s hB 5 (pc' := 6) (L' := [(4, .int 60), (3, .int 0), (0, .ref 5), (1, .long a0)]) (st' := []) (I' := I) (J' := J) (by with_unfolding_all rfl) ?_
  refine pq_perm (L := [(0, .ref 5), (1, .long a0), (3, .int 0), (4, .int 60)]) (leqn_of ⟨rfl, rfl, rfl, rfl, trivial⟩ ⟨rfl, rfl, rfl, rfl, trivial⟩ ⟨rfl, rfl, rfl, rfl, trivial⟩) ?_
  refine f354_5_l6_pq hB N (Nat.le_refl N) N N hle (Nat.le_refl N) rfl ?_
  intro y1_1 y1_3 y1_4 I1 J1 hc1
  rw [hc1] at hq
  dsimp only at hq
  subst hq
  exact pq_2 (v := none) rfl rfl (by with_unfolding_all rfl) ⟨rfl, rfl⟩
-- LP.tray
def f134_0 (N : Nat) (I : tI) (J : tJ) (a0 : Int32) (a1 : Int32) (a2 : Int32) : Option (Int32 × tI × tJ) :=
  (match f133 I J a0 with | (v1, I1, J1) => bif xcmp .eq v1 0 then (match f124_0 I1 J1 1 with | (v3, I3, J3) => some (v3, I3, J3)) else (match f127 I1 J1 a1 0 3 with | (v4, I4, J4) => bif xcmp .eq v4 0 then (match f124_0 I4 J4 1 with | (v6, I6, J6) => some (v6, I6, J6)) else (match f127 I4 J4 a2 0 60 with | (v7, I7, J7) => bif xcmp .ne v7 0 then (bif xcmp .eq a0 0 then ((match f354_2 N (tup (tup I7 6 ((a0).toNatClampNeg) a1) 7 ((a0).toNatClampNeg) a2) J7 0 with | none => none | some (_, I10, J10) => (match f123_0 I10 J10 with | (v11, I11, J11) => some (v11, I11, J11)))) else bif xcmp .eq a0 1 then ((match f354_3 N (tup (tup I7 6 ((a0).toNatClampNeg) a1) 7 ((a0).toNatClampNeg) a2) J7 0 with | none => none | some (_, I12, J12) => (match f123_0 I12 J12 with | (v13, I13, J13) => some (v13, I13, J13)))) else bif xcmp .eq a0 2 then ((match f354_4 N (tup (tup I7 6 ((a0).toNatClampNeg) a1) 7 ((a0).toNatClampNeg) a2) J7 0 with | none => none | some (_, I14, J14) => (match f123_0 I14 J14 with | (v15, I15, J15) => some (v15, I15, J15)))) else ((match f354_5 N (tup (tup I7 6 ((a0).toNatClampNeg) a1) 7 ((a0).toNatClampNeg) a2) J7 0 with | none => none | some (_, I16, J16) => (match f123_0 I16 J16 with | (v17, I17, J17) => some (v17, I17, J17))))) else (match f124_0 I7 J7 1 with | (v18, I18, J18) => some (v18, I18, J18)))))
set_option maxRecDepth 100000 in
theorem f134_0_pq {sc : List Int32} {B : xM} {N : Nat} {I : tI} {J : tJ} {a0 : Int32} {a1 : Int32} {a2 : Int32} (hB : kB pT B) : ∀ {X : Option (Int32 × tI × tJ)}, f134_0 N I J a0 a1 a2 = X → pq sc B N (xt_134, 4, 3) 0 [(0, .ref 0), (1, .int a0), (2, .int a1), (3, .int a2)] [] I J (fun v I1 J1 => ∃ a, v = some (.int a) ∧ X = some (a, I1, J1)) := by
  intro X hq
  unfold f134_0 at hq
  have hle : N ≤ N := Nat.le_refl N
  refine pq_s hB 1 (pc' := 1) (L' := [(0, .ref 0), (1, .int a0), (2, .int a1), (3, .int a2)]) (st' := [.int a0]) (I' := I) (J' := J) (by with_unfolding_all rfl) ?_
  generalize hc1 : f133 I J a0 = q1 at hq
  obtain ⟨v1, _, _⟩ := q1
  dsimp only at hq
  refine pq_1 rfl rfl rfl rfl (f133_pq hB hc1) ?_
  rintro _ I1 J1 ⟨rfl, rfl, rfl⟩
  refine pq_ifn hB rfl (fun h2 => ?_) (fun h2 => ?_)
  · rw [h2, cond_true] at hq
    refine pq_s hB 2 (pc' := 28) (L' := [(0, .ref 0), (1, .int a0), (2, .int a1), (3, .int a2)]) (st' := [.int 1, .ref 0]) (I' := I1) (J' := J1) (by with_unfolding_all rfl) ?_
    generalize hc3 : f124_0 I1 J1 1 = q3 at hq
    obtain ⟨v3, _, _⟩ := q3
    dsimp only at hq
    refine pq_1 rfl rfl rfl rfl (f124_0_pq hB hc3) ?_
    rintro _ I3 J3 ⟨rfl, rfl, rfl⟩
    subst hq
    exact pq_2i (x := v3) rfl ⟨_, rfl, rfl⟩
  · rw [h2, cond_false] at hq
    refine pq_s hB 3 (pc' := 10) (L' := [(0, .ref 0), (1, .int a0), (2, .int a1), (3, .int a2)]) (st' := [.int 3, .int 0, .int a1]) (I' := I1) (J' := J1) (by with_unfolding_all rfl) ?_
    generalize hc4 : f127 I1 J1 a1 0 3 = q4 at hq
    obtain ⟨v4, _, _⟩ := q4
    dsimp only at hq
    refine pq_1 rfl rfl rfl rfl (f127_pq hB hc4) ?_
    rintro _ I4 J4 ⟨rfl, rfl, rfl⟩
    refine pq_ifn hB rfl (fun h5 => ?_) (fun h5 => ?_)
    · rw [h5, cond_true] at hq
      refine pq_s hB 2 (pc' := 28) (L' := [(0, .ref 0), (1, .int a0), (2, .int a1), (3, .int a2)]) (st' := [.int 1, .ref 0]) (I' := I4) (J' := J4) (by with_unfolding_all rfl) ?_
      generalize hc6 : f124_0 I4 J4 1 = q6 at hq
      obtain ⟨v6, _, _⟩ := q6
      dsimp only at hq
      refine pq_1 rfl rfl rfl rfl (f124_0_pq hB hc6) ?_
      rintro _ I6 J6 ⟨rfl, rfl, rfl⟩
      subst hq
      exact pq_2i (x := v6) rfl ⟨_, rfl, rfl⟩
    · rw [h5, cond_false] at hq
      refine pq_s hB 3 (pc' := 20) (L' := [(0, .ref 0), (1, .int a0), (2, .int a1), (3, .int a2)]) (st' := [.int 60, .int 0, .int a2]) (I' := I4) (J' := J4) (by with_unfolding_all rfl) ?_
      generalize hc7 : f127 I4 J4 a2 0 60 = q7 at hq
      obtain ⟨v7, _, _⟩ := q7
      dsimp only at hq
      refine pq_1 rfl rfl rfl rfl (f127_pq hB hc7) ?_
      rintro _ I7 J7 ⟨rfl, rfl, rfl⟩
      refine pq_ifn hB rfl (fun h8 => ?_) (fun h8 => ?_)
      · rw [h8, cond_true] at hq
        refine pq_s hB 13 (pc' := 51) (L' := [(0, .ref 0), (1, .int a0), (2, .int a1), (3, .int a2)]) (st' := [.int a0, .ref 1]) (I' := (tup (tup I7 6 ((a0).toNatClampNeg) a1) 7 ((a0).toNatClampNeg) a2)) (J' := J7) (by with_unfolding_all rfl) ?_
        refine pq_aal4 hB rfl (by decide +kernel) (fun h9_0 => ?_) (fun h9_0 h9_1 => ?_) (fun h9_0 h9_1 h9_2 => ?_) (fun h9_0 h9_1 h9_2 => ?_)
        ·
          show pq sc B _ _ _ _ (.ref 2 :: _) _ _ _
          rw [h9_0, cond_true] at hq
          refine pq_s hB 1 (pc' := 53) (L' := [(0, .ref 0), (1, .int a0), (2, .int a1), (3, .int a2)]) (st' := [.long 0, .ref 2]) (I' := (tup (tup I7 6 ((a0).toNatClampNeg) a1) 7 ((a0).toNatClampNeg) a2)) (J' := J7) (by with_unfolding_all rfl) ?_
          refine pq_1 rfl rfl rfl rfl (pq_le hle (f354_2_pq hB rfl)) ?_
          rintro _ I10 J10 ⟨rfl, hc10⟩
          rw [hc10] at hq
          dsimp only at hq
          refine pq_s hB 1 (pc' := 57) (L' := [(0, .ref 0), (1, .int a0), (2, .int a1), (3, .int a2)]) (st' := [.ref 0]) (I' := I10) (J' := J10) (by with_unfolding_all rfl) ?_
          generalize hc11 : f123_0 I10 J10 = q11 at hq
          obtain ⟨v11, _, _⟩ := q11
          dsimp only at hq
          refine pq_1 rfl rfl rfl rfl (f123_0_pq hB hc11) ?_
          rintro _ I11 J11 ⟨rfl, rfl, rfl⟩
          subst hq
          exact pq_2i (x := v11) rfl ⟨_, rfl, rfl⟩
        ·
            show pq sc B _ _ _ _ (.ref 3 :: _) _ _ _
            rw [h9_0, cond_false] at hq
            rw [h9_1, cond_true] at hq
            refine pq_s hB 1 (pc' := 53) (L' := [(0, .ref 0), (1, .int a0), (2, .int a1), (3, .int a2)]) (st' := [.long 0, .ref 3]) (I' := (tup (tup I7 6 ((a0).toNatClampNeg) a1) 7 ((a0).toNatClampNeg) a2)) (J' := J7) (by with_unfolding_all rfl) ?_
            refine pq_1 rfl rfl rfl rfl (pq_le hle (f354_3_pq hB rfl)) ?_
            rintro _ I12 J12 ⟨rfl, hc12⟩
            rw [hc12] at hq
            dsimp only at hq
            refine pq_s hB 1 (pc' := 57) (L' := [(0, .ref 0), (1, .int a0), (2, .int a1), (3, .int a2)]) (st' := [.ref 0]) (I' := I12) (J' := J12) (by with_unfolding_all rfl) ?_
            generalize hc13 : f123_0 I12 J12 = q13 at hq
            obtain ⟨v13, _, _⟩ := q13
            dsimp only at hq
            refine pq_1 rfl rfl rfl rfl (f123_0_pq hB hc13) ?_
            rintro _ I13 J13 ⟨rfl, rfl, rfl⟩
            subst hq
            exact pq_2i (x := v13) rfl ⟨_, rfl, rfl⟩
        ·
              show pq sc B _ _ _ _ (.ref 4 :: _) _ _ _
              rw [h9_0, cond_false] at hq
              rw [h9_1, cond_false] at hq
              rw [h9_2, cond_true] at hq
              refine pq_s hB 1 (pc' := 53) (L' := [(0, .ref 0), (1, .int a0), (2, .int a1), (3, .int a2)]) (st' := [.long 0, .ref 4]) (I' := (tup (tup I7 6 ((a0).toNatClampNeg) a1) 7 ((a0).toNatClampNeg) a2)) (J' := J7) (by with_unfolding_all rfl) ?_
              refine pq_1 rfl rfl rfl rfl (pq_le hle (f354_4_pq hB rfl)) ?_
              rintro _ I14 J14 ⟨rfl, hc14⟩
              rw [hc14] at hq
              dsimp only at hq
              refine pq_s hB 1 (pc' := 57) (L' := [(0, .ref 0), (1, .int a0), (2, .int a1), (3, .int a2)]) (st' := [.ref 0]) (I' := I14) (J' := J14) (by with_unfolding_all rfl) ?_
              generalize hc15 : f123_0 I14 J14 = q15 at hq
              obtain ⟨v15, _, _⟩ := q15
              dsimp only at hq
              refine pq_1 rfl rfl rfl rfl (f123_0_pq hB hc15) ?_
              rintro _ I15 J15 ⟨rfl, rfl, rfl⟩
              subst hq
              exact pq_2i (x := v15) rfl ⟨_, rfl, rfl⟩
        ·
              show pq sc B _ _ _ _ (.ref 5 :: _) _ _ _
              rw [h9_0, cond_false] at hq
              rw [h9_1, cond_false] at hq
              rw [h9_2, cond_false] at hq
              refine pq_s hB 1 (pc' := 53) (L' := [(0, .ref 0), (1, .int a0), (2, .int a1), (3, .int a2)]) (st' := [.long 0, .ref 5]) (I' := (tup (tup I7 6 ((a0).toNatClampNeg) a1) 7 ((a0).toNatClampNeg) a2)) (J' := J7) (by with_unfolding_all rfl) ?_
              refine pq_1 rfl rfl rfl rfl (pq_le hle (f354_5_pq hB rfl)) ?_
              rintro _ I16 J16 ⟨rfl, hc16⟩
              rw [hc16] at hq
              dsimp only at hq
              refine pq_s hB 1 (pc' := 57) (L' := [(0, .ref 0), (1, .int a0), (2, .int a1), (3, .int a2)]) (st' := [.ref 0]) (I' := I16) (J' := J16) (by with_unfolding_all rfl) ?_
              generalize hc17 : f123_0 I16 J16 = q17 at hq
              obtain ⟨v17, _, _⟩ := q17
              dsimp only at hq
              refine pq_1 rfl rfl rfl rfl (f123_0_pq hB hc17) ?_
              rintro _ I17 J17 ⟨rfl, rfl, rfl⟩
              subst hq
              exact pq_2i (x := v17) rfl ⟨_, rfl, rfl⟩
      · rw [h8, cond_false] at hq
        refine pq_s hB 2 (pc' := 28) (L' := [(0, .ref 0), (1, .int a0), (2, .int a1), (3, .int a2)]) (st' := [.int 1, .ref 0]) (I' := I7) (J' := J7) (by with_unfolding_all rfl) ?_
        generalize hc18 : f124_0 I7 J7 1 = q18 at hq
        obtain ⟨v18, _, _⟩ := q18
        dsimp only at hq
        refine pq_1 rfl rfl rfl rfl (f124_0_pq hB hc18) ?_
        rintro _ I18 J18 ⟨rfl, rfl, rfl⟩
        subst hq
        exact pq_2i (x := v18) rfl ⟨_, rfl, rfl⟩
-- LP.whyNoPlace
def f138_0 (I : tI) (J : tJ) (a0 : Int32) (a1 : Int32) : Int32 × tI × tJ :=
  (match f133 I J a0 with | (v1, I1, J1) => bif xcmp .ne v1 0 then (bif xcmp .ne (I1 6 (a0).toNatClampNeg) (-1) then (match f127 I1 J1 a1 0 ((I1 7 (a0).toNatClampNeg) - 1) with | (v4, I4, J4) => bif xcmp .eq v4 0 then (3, I4, J4) else (0, I4, J4)) else (2, I1, J1)) else (1, I1, J1))
set_option maxRecDepth 100000 in
theorem f138_0_pq {sc : List Int32} {B : xM} {n : Nat} {I : tI} {J : tJ} {a0 : Int32} {a1 : Int32} (hB : kB pT B) : ∀ {q : Int32 × tI × tJ}, f138_0 I J a0 a1 = q → pq sc B n (xt_138, 3, 1) 0 [(0, .ref 0), (1, .int a0), (2, .int a1)] [] I J (fun v I1 J1 => v = some (.int q.1) ∧ I1 = q.2.1 ∧ J1 = q.2.2) := by
  intro q hq
  unfold f138_0 at hq
  refine pq_s hB 1 (pc' := 1) (L' := [(0, .ref 0), (1, .int a0), (2, .int a1)]) (st' := [.int a0]) (I' := I) (J' := J) (by with_unfolding_all rfl) ?_
  generalize hc1 : f133 I J a0 = q1 at hq
  obtain ⟨v1, _, _⟩ := q1
  dsimp only at hq
  refine pq_1 rfl rfl rfl rfl (f133_pq hB hc1) ?_
  rintro _ I1 J1 ⟨rfl, rfl, rfl⟩
  refine pq_ifn hB rfl (fun h2 => ?_) (fun h2 => ?_)
  · rw [h2, cond_true] at hq
    refine pq_s hB 5 (pc' := 16) (L' := [(0, .ref 0), (1, .int a0), (2, .int a1)]) (st' := [.int (-1), .int (I1 6 (a0).toNatClampNeg)]) (I' := I1) (J' := J1) (by with_unfolding_all rfl) ?_
    refine pq_icn hB rfl (fun h3 => ?_) (fun h3 => ?_)
    · rw [h3, cond_true] at hq
      refine pq_s hB 8 (pc' := 31) (L' := [(0, .ref 0), (1, .int a0), (2, .int a1)]) (st' := [.int ((I1 7 (a0).toNatClampNeg) - 1), .int 0, .int a1]) (I' := I1) (J' := J1) (by with_unfolding_all rfl) ?_
      generalize hc4 : f127 I1 J1 a1 0 ((I1 7 (a0).toNatClampNeg) - 1) = q4 at hq
      obtain ⟨v4, _, _⟩ := q4
      dsimp only at hq
      refine pq_1 rfl rfl rfl rfl (f127_pq hB hc4) ?_
      rintro _ I4 J4 ⟨rfl, rfl, rfl⟩
      refine pq_ifn hB rfl (fun h5 => ?_) (fun h5 => ?_)
      · rw [h5, cond_true] at hq
        refine pq_s hB 1 (pc' := 42) (L' := [(0, .ref 0), (1, .int a0), (2, .int a1)]) (st' := [.int 3]) (I' := I4) (J' := J4) (by with_unfolding_all rfl) ?_
        subst hq
        exact pq_2i (x := 3) rfl ⟨rfl, rfl, rfl⟩
      · rw [h5, cond_false] at hq
        refine pq_s hB 2 (pc' := 42) (L' := [(0, .ref 0), (1, .int a0), (2, .int a1)]) (st' := [.int 0]) (I' := I4) (J' := J4) (by with_unfolding_all rfl) ?_
        subst hq
        exact pq_2i (x := 0) rfl ⟨rfl, rfl, rfl⟩
    · rw [h3, cond_false] at hq
      refine pq_s hB 1 (pc' := 20) (L' := [(0, .ref 0), (1, .int a0), (2, .int a1)]) (st' := [.int 2]) (I' := I1) (J' := J1) (by with_unfolding_all rfl) ?_
      subst hq
      exact pq_2i (x := 2) rfl ⟨rfl, rfl, rfl⟩
  · rw [h2, cond_false] at hq
    refine pq_s hB 1 (pc' := 8) (L' := [(0, .ref 0), (1, .int a0), (2, .int a1)]) (st' := [.int 1]) (I' := I1) (J' := J1) (by with_unfolding_all rfl) ?_
    subst hq
    exact pq_2i (x := 1) rfl ⟨rfl, rfl, rfl⟩
-- LP.cutTo
def f140 (I : tI) (J : tJ) (a0 : Int32) (a1 : Int64) : Int64 × tI × tJ :=
  bif xcmp .eq a0 0 then (((((a1).toInt32).toInt8.toInt32).toInt64, I, J)) else bif xcmp .eq a0 1 then ((((((a1).toInt32).toInt16.toInt32)).toInt64, I, J)) else bif xcmp .eq a0 2 then ((((a1).toInt32).toInt64, I, J)) else (a1, I, J)
set_option maxRecDepth 100000 in
theorem f140_pq {sc : List Int32} {B : xM} {n : Nat} {I : tI} {J : tJ} {a0 : Int32} {a1 : Int64} (hB : kB pT B) : ∀ {q : Int64 × tI × tJ}, f140 I J a0 a1 = q → pq sc B n (xt_140, 3, 2) 0 [(0, .int a0), (1, .long a1)] [] I J (fun v I1 J1 => v = some (.long q.1) ∧ I1 = q.2.1 ∧ J1 = q.2.2) := by
  intro q hq
  unfold f140 at hq
  refine pq_s hB 1 (pc' := 1) (L' := [(0, .int a0), (1, .long a1)]) (st' := [.int a0]) (I' := I) (J' := J) (by with_unfolding_all rfl) ?_
  cases h1 : xcmp .eq a0 0 with
  | true =>
    rw [h1, cond_true] at hq
    refine pq_tsw_k hB (c := 0) (t := 28) rfl h1 rfl ?_
    refine pq_s hB 4 (pc' := 32) (L' := [(0, .int a0), (1, .long a1)]) (st' := [.long (((a1).toInt32).toInt8.toInt32).toInt64]) (I' := I) (J' := J) (by with_unfolding_all rfl) ?_
    subst hq
    exact pq_2 (v := some (.long ((((a1).toInt32).toInt8.toInt32).toInt64))) rfl rfl (by with_unfolding_all rfl) ⟨rfl, rfl, rfl⟩
  | false =>
    rw [h1, cond_false] at hq
    cases h2 : xcmp .eq a0 1 with
    | true =>
      rw [h2, cond_true] at hq
      refine pq_tsw_k hB (c := 1) (t := 33) rfl h2 rfl ?_
      refine pq_s hB 4 (pc' := 37) (L' := [(0, .int a0), (1, .long a1)]) (st' := [.long ((((a1).toInt32).toInt16.toInt32)).toInt64]) (I' := I) (J' := J) (by with_unfolding_all rfl) ?_
      subst hq
      exact pq_2 (v := some (.long (((((a1).toInt32).toInt16.toInt32)).toInt64))) rfl rfl (by with_unfolding_all rfl) ⟨rfl, rfl, rfl⟩
    | false =>
      rw [h2, cond_false] at hq
      cases h3 : xcmp .eq a0 2 with
      | true =>
        rw [h3, cond_true] at hq
        refine pq_tsw_k hB (c := 2) (t := 38) rfl h3 rfl ?_
        refine pq_s hB 3 (pc' := 41) (L' := [(0, .int a0), (1, .long a1)]) (st' := [.long ((a1).toInt32).toInt64]) (I' := I) (J' := J) (by with_unfolding_all rfl) ?_
        subst hq
        exact pq_2 (v := some (.long (((a1).toInt32).toInt64))) rfl rfl (by with_unfolding_all rfl) ⟨rfl, rfl, rfl⟩
      | false =>
        rw [h3, cond_false] at hq
        refine pq_tsw_d hB (cs := [0, 1, 2]) rfl rfl rfl (List.forall_mem_cons.mpr ⟨h1, List.forall_mem_cons.mpr ⟨h2, List.forall_mem_cons.mpr ⟨h3, fun c hc => by cases hc⟩⟩⟩) ?_
        show pq sc B _ _ 42 _ _ _ _ _
        refine pq_s hB 1 (pc' := 43) (L' := [(0, .int a0), (1, .long a1)]) (st' := [.long a1]) (I' := I) (J' := J) (by with_unfolding_all rfl) ?_
        subst hq
        exact pq_2 (v := some (.long (a1))) rfl rfl (by with_unfolding_all rfl) ⟨rfl, rfl, rfl⟩
-- LP.write
def f135_0 (I : tI) (J : tJ) (a0 : Int32) (a1 : Int32) (a2 : Int64) : Int32 × tI × tJ :=
  (match f138_0 I J a0 a1 with | (v1, I1, J1) => bif xcmp .eq v1 0 then (bif xcmp .eq a0 0 then ((match f140 I1 J1 (I1 6 (a0).toNatClampNeg) a2 with | (v4, I4, J4) => (match f123_0 I4 (tup J4 2 ((a1).toNatClampNeg) v4) with | (v5, I5, J5) => (v5, I5, J5)))) else bif xcmp .eq a0 1 then ((match f140 I1 J1 (I1 6 (a0).toNatClampNeg) a2 with | (v6, I6, J6) => (match f123_0 I6 (tup J6 3 ((a1).toNatClampNeg) v6) with | (v7, I7, J7) => (v7, I7, J7)))) else bif xcmp .eq a0 2 then ((match f140 I1 J1 (I1 6 (a0).toNatClampNeg) a2 with | (v8, I8, J8) => (match f123_0 I8 (tup J8 4 ((a1).toNatClampNeg) v8) with | (v9, I9, J9) => (v9, I9, J9)))) else ((match f140 I1 J1 (I1 6 (a0).toNatClampNeg) a2 with | (v10, I10, J10) => (match f123_0 I10 (tup J10 5 ((a1).toNatClampNeg) v10) with | (v11, I11, J11) => (v11, I11, J11))))) else (match f124_0 I1 J1 v1 with | (v12, I12, J12) => (v12, I12, J12)))
set_option maxRecDepth 100000 in
theorem f135_0_pq {sc : List Int32} {B : xM} {n : Nat} {I : tI} {J : tJ} {a0 : Int32} {a1 : Int32} {a2 : Int64} (hB : kB pT B) : ∀ {q : Int32 × tI × tJ}, f135_0 I J a0 a1 a2 = q → pq sc B n (xt_135, 6, 3) 0 [(0, .ref 0), (1, .int a0), (2, .int a1), (3, .long a2)] [] I J (fun v I1 J1 => v = some (.int q.1) ∧ I1 = q.2.1 ∧ J1 = q.2.2) := by
  intro q hq
  unfold f135_0 at hq
  refine pq_s hB 3 (pc' := 3) (L' := [(0, .ref 0), (1, .int a0), (2, .int a1), (3, .long a2)]) (st' := [.int a1, .int a0, .ref 0]) (I' := I) (J' := J) (by with_unfolding_all rfl) ?_
  generalize hc1 : f138_0 I J a0 a1 = q1 at hq
  obtain ⟨v1, _, _⟩ := q1
  dsimp only at hq
  refine pq_1 rfl rfl rfl rfl (f138_0_pq hB hc1) ?_
  rintro _ I1 J1 ⟨rfl, rfl, rfl⟩
  refine pq_s hB 2 (pc' := 10) (L' := [(5, .int v1), (0, .ref 0), (1, .int a0), (2, .int a1), (3, .long a2)]) (st' := [.int v1]) (I' := I1) (J' := J1) (by with_unfolding_all rfl) ?_
  refine pq_ifn hB rfl (fun h2 => ?_) (fun h2 => ?_)
  · rw [h2, cond_true] at hq
    refine pq_s hB 3 (pc' := 25) (L' := [(5, .int v1), (0, .ref 0), (1, .int a0), (2, .int a1), (3, .long a2)]) (st' := [.int a0, .ref 1]) (I' := I1) (J' := J1) (by with_unfolding_all rfl) ?_
    refine pq_aal4 hB rfl (by decide +kernel) (fun h3_0 => ?_) (fun h3_0 h3_1 => ?_) (fun h3_0 h3_1 h3_2 => ?_) (fun h3_0 h3_1 h3_2 => ?_)
    ·
      show pq sc B _ _ _ _ (.ref 2 :: _) _ _ _
      rw [h3_0, cond_true] at hq
      refine pq_s hB 6 (pc' := 34) (L' := [(5, .int v1), (0, .ref 0), (1, .int a0), (2, .int a1), (3, .long a2)]) (st' := [.long a2, .int (I1 6 (a0).toNatClampNeg), .int a1, .ref 2]) (I' := I1) (J' := J1) (by with_unfolding_all rfl) ?_
      generalize hc4 : f140 I1 J1 (I1 6 (a0).toNatClampNeg) a2 = q4 at hq
      obtain ⟨v4, _, _⟩ := q4
      dsimp only at hq
      refine pq_1 rfl rfl rfl rfl (f140_pq hB hc4) ?_
      rintro _ I4 J4 ⟨rfl, rfl, rfl⟩
      refine pq_s hB 2 (pc' := 39) (L' := [(5, .int v1), (0, .ref 0), (1, .int a0), (2, .int a1), (3, .long a2)]) (st' := [.ref 0]) (I' := I4) (J' := (tup J4 2 ((a1).toNatClampNeg) v4)) (by with_unfolding_all rfl) ?_
      generalize hc5 : f123_0 I4 (tup J4 2 ((a1).toNatClampNeg) v4) = q5 at hq
      obtain ⟨v5, _, _⟩ := q5
      dsimp only at hq
      refine pq_1 rfl rfl rfl rfl (f123_0_pq hB hc5) ?_
      rintro _ I5 J5 ⟨rfl, rfl, rfl⟩
      subst hq
      exact pq_2i (x := v5) rfl ⟨rfl, rfl, rfl⟩
    ·
        show pq sc B _ _ _ _ (.ref 3 :: _) _ _ _
        rw [h3_0, cond_false] at hq
        rw [h3_1, cond_true] at hq
        refine pq_s hB 6 (pc' := 34) (L' := [(5, .int v1), (0, .ref 0), (1, .int a0), (2, .int a1), (3, .long a2)]) (st' := [.long a2, .int (I1 6 (a0).toNatClampNeg), .int a1, .ref 3]) (I' := I1) (J' := J1) (by with_unfolding_all rfl) ?_
        generalize hc6 : f140 I1 J1 (I1 6 (a0).toNatClampNeg) a2 = q6 at hq
        obtain ⟨v6, _, _⟩ := q6
        dsimp only at hq
        refine pq_1 rfl rfl rfl rfl (f140_pq hB hc6) ?_
        rintro _ I6 J6 ⟨rfl, rfl, rfl⟩
        refine pq_s hB 2 (pc' := 39) (L' := [(5, .int v1), (0, .ref 0), (1, .int a0), (2, .int a1), (3, .long a2)]) (st' := [.ref 0]) (I' := I6) (J' := (tup J6 3 ((a1).toNatClampNeg) v6)) (by with_unfolding_all rfl) ?_
        generalize hc7 : f123_0 I6 (tup J6 3 ((a1).toNatClampNeg) v6) = q7 at hq
        obtain ⟨v7, _, _⟩ := q7
        dsimp only at hq
        refine pq_1 rfl rfl rfl rfl (f123_0_pq hB hc7) ?_
        rintro _ I7 J7 ⟨rfl, rfl, rfl⟩
        subst hq
        exact pq_2i (x := v7) rfl ⟨rfl, rfl, rfl⟩
    ·
          show pq sc B _ _ _ _ (.ref 4 :: _) _ _ _
          rw [h3_0, cond_false] at hq
          rw [h3_1, cond_false] at hq
          rw [h3_2, cond_true] at hq
          refine pq_s hB 6 (pc' := 34) (L' := [(5, .int v1), (0, .ref 0), (1, .int a0), (2, .int a1), (3, .long a2)]) (st' := [.long a2, .int (I1 6 (a0).toNatClampNeg), .int a1, .ref 4]) (I' := I1) (J' := J1) (by with_unfolding_all rfl) ?_
          generalize hc8 : f140 I1 J1 (I1 6 (a0).toNatClampNeg) a2 = q8 at hq
          obtain ⟨v8, _, _⟩ := q8
          dsimp only at hq
          refine pq_1 rfl rfl rfl rfl (f140_pq hB hc8) ?_
          rintro _ I8 J8 ⟨rfl, rfl, rfl⟩
          refine pq_s hB 2 (pc' := 39) (L' := [(5, .int v1), (0, .ref 0), (1, .int a0), (2, .int a1), (3, .long a2)]) (st' := [.ref 0]) (I' := I8) (J' := (tup J8 4 ((a1).toNatClampNeg) v8)) (by with_unfolding_all rfl) ?_
          generalize hc9 : f123_0 I8 (tup J8 4 ((a1).toNatClampNeg) v8) = q9 at hq
          obtain ⟨v9, _, _⟩ := q9
          dsimp only at hq
          refine pq_1 rfl rfl rfl rfl (f123_0_pq hB hc9) ?_
          rintro _ I9 J9 ⟨rfl, rfl, rfl⟩
          subst hq
          exact pq_2i (x := v9) rfl ⟨rfl, rfl, rfl⟩
    ·
          show pq sc B _ _ _ _ (.ref 5 :: _) _ _ _
          rw [h3_0, cond_false] at hq
          rw [h3_1, cond_false] at hq
          rw [h3_2, cond_false] at hq
          refine pq_s hB 6 (pc' := 34) (L' := [(5, .int v1), (0, .ref 0), (1, .int a0), (2, .int a1), (3, .long a2)]) (st' := [.long a2, .int (I1 6 (a0).toNatClampNeg), .int a1, .ref 5]) (I' := I1) (J' := J1) (by with_unfolding_all rfl) ?_
          generalize hc10 : f140 I1 J1 (I1 6 (a0).toNatClampNeg) a2 = q10 at hq
          obtain ⟨v10, _, _⟩ := q10
          dsimp only at hq
          refine pq_1 rfl rfl rfl rfl (f140_pq hB hc10) ?_
          rintro _ I10 J10 ⟨rfl, rfl, rfl⟩
          refine pq_s hB 2 (pc' := 39) (L' := [(5, .int v1), (0, .ref 0), (1, .int a0), (2, .int a1), (3, .long a2)]) (st' := [.ref 0]) (I' := I10) (J' := (tup J10 5 ((a1).toNatClampNeg) v10)) (by with_unfolding_all rfl) ?_
          generalize hc11 : f123_0 I10 (tup J10 5 ((a1).toNatClampNeg) v10) = q11 at hq
          obtain ⟨v11, _, _⟩ := q11
          dsimp only at hq
          refine pq_1 rfl rfl rfl rfl (f123_0_pq hB hc11) ?_
          rintro _ I11 J11 ⟨rfl, rfl, rfl⟩
          subst hq
          exact pq_2i (x := v11) rfl ⟨rfl, rfl, rfl⟩
  · rw [h2, cond_false] at hq
    refine pq_s hB 2 (pc' := 16) (L' := [(5, .int v1), (0, .ref 0), (1, .int a0), (2, .int a1), (3, .long a2)]) (st' := [.int v1, .ref 0]) (I' := I1) (J' := J1) (by with_unfolding_all rfl) ?_
    generalize hc12 : f124_0 I1 J1 v1 = q12 at hq
    obtain ⟨v12, _, _⟩ := q12
    dsimp only at hq
    refine pq_1 rfl rfl rfl rfl (f124_0_pq hB hc12) ?_
    rintro _ I12 J12 ⟨rfl, rfl, rfl⟩
    subst hq
    exact pq_2i (x := v12) rfl ⟨rfl, rfl, rfl⟩
-- LP.refuse
def f122_0 (I : tI) (J : tJ) (a0 : Int32) : Int32 × tI × tJ :=
  ((-1), (tup I 0 5 a0), J)
set_option maxRecDepth 100000 in
theorem f122_0_pq {sc : List Int32} {B : xM} {n : Nat} {I : tI} {J : tJ} {a0 : Int32} (hB : kB pT B) : ∀ {q : Int32 × tI × tJ}, f122_0 I J a0 = q → pq sc B n (xt_122, 2, 1) 0 [(0, .ref 0), (1, .int a0)] [] I J (fun v I1 J1 => v = some (.int q.1) ∧ I1 = q.2.1 ∧ J1 = q.2.2) := by
  intro q hq
  unfold f122_0 at hq
  refine pq_s hB 4 (pc' := 6) (L' := [(0, .ref 0), (1, .int a0)]) (st' := [.int (-1)]) (I' := (tup I 0 5 a0)) (J' := J) (by with_unfolding_all rfl) ?_
  subst hq
  exact pq_2i (x := (-1)) rfl ⟨rfl, rfl, rfl⟩
-- LP.read
def f136_0 (I : tI) (J : tJ) (a0 : Int32) (a1 : Int32) : Int64 × tI × tJ :=
  (match f138_0 I J a0 a1 with | (v1, I1, J1) => bif xcmp .eq v1 0 then (bif xcmp .eq a0 0 then (((J1 2 (a1).toNatClampNeg), (tup I1 0 5 0), J1)) else bif xcmp .eq a0 1 then (((J1 3 (a1).toNatClampNeg), (tup I1 0 5 0), J1)) else bif xcmp .eq a0 2 then (((J1 4 (a1).toNatClampNeg), (tup I1 0 5 0), J1)) else (((J1 5 (a1).toNatClampNeg), (tup I1 0 5 0), J1))) else (match f122_0 I1 J1 v1 with | (v4, I4, J4) => ((v4).toInt64, I4, J4)))
set_option maxRecDepth 100000 in
theorem f136_0_pq {sc : List Int32} {B : xM} {n : Nat} {I : tI} {J : tJ} {a0 : Int32} {a1 : Int32} (hB : kB pT B) : ∀ {q : Int64 × tI × tJ}, f136_0 I J a0 a1 = q → pq sc B n (xt_136, 4, 2) 0 [(0, .ref 0), (1, .int a0), (2, .int a1)] [] I J (fun v I1 J1 => v = some (.long q.1) ∧ I1 = q.2.1 ∧ J1 = q.2.2) := by
  intro q hq
  unfold f136_0 at hq
  refine pq_s hB 3 (pc' := 3) (L' := [(0, .ref 0), (1, .int a0), (2, .int a1)]) (st' := [.int a1, .int a0, .ref 0]) (I' := I) (J' := J) (by with_unfolding_all rfl) ?_
  generalize hc1 : f138_0 I J a0 a1 = q1 at hq
  obtain ⟨v1, _, _⟩ := q1
  dsimp only at hq
  refine pq_1 rfl rfl rfl rfl (f138_0_pq hB hc1) ?_
  rintro _ I1 J1 ⟨rfl, rfl, rfl⟩
  refine pq_s hB 2 (pc' := 8) (L' := [(3, .int v1), (0, .ref 0), (1, .int a0), (2, .int a1)]) (st' := [.int v1]) (I' := I1) (J' := J1) (by with_unfolding_all rfl) ?_
  refine pq_ifn hB rfl (fun h2 => ?_) (fun h2 => ?_)
  · rw [h2, cond_true] at hq
    refine pq_s hB 6 (pc' := 28) (L' := [(3, .int v1), (0, .ref 0), (1, .int a0), (2, .int a1)]) (st' := [.int a0, .ref 1]) (I' := (tup I1 0 5 0)) (J' := J1) (by with_unfolding_all rfl) ?_
    refine pq_aal4 hB rfl (by decide +kernel) (fun h3_0 => ?_) (fun h3_0 h3_1 => ?_) (fun h3_0 h3_1 h3_2 => ?_) (fun h3_0 h3_1 h3_2 => ?_)
    ·
      show pq sc B _ _ _ _ (.ref 2 :: _) _ _ _
      rw [h3_0, cond_true] at hq
      refine pq_s hB 2 (pc' := 31) (L' := [(3, .int v1), (0, .ref 0), (1, .int a0), (2, .int a1)]) (st' := [.long (J1 2 (a1).toNatClampNeg)]) (I' := (tup I1 0 5 0)) (J' := J1) (by with_unfolding_all rfl) ?_
      subst hq
      exact pq_2 (v := some (.long ((J1 2 (a1).toNatClampNeg)))) rfl rfl (by with_unfolding_all rfl) ⟨rfl, rfl, rfl⟩
    ·
        show pq sc B _ _ _ _ (.ref 3 :: _) _ _ _
        rw [h3_0, cond_false] at hq
        rw [h3_1, cond_true] at hq
        refine pq_s hB 2 (pc' := 31) (L' := [(3, .int v1), (0, .ref 0), (1, .int a0), (2, .int a1)]) (st' := [.long (J1 3 (a1).toNatClampNeg)]) (I' := (tup I1 0 5 0)) (J' := J1) (by with_unfolding_all rfl) ?_
        subst hq
        exact pq_2 (v := some (.long ((J1 3 (a1).toNatClampNeg)))) rfl rfl (by with_unfolding_all rfl) ⟨rfl, rfl, rfl⟩
    ·
          show pq sc B _ _ _ _ (.ref 4 :: _) _ _ _
          rw [h3_0, cond_false] at hq
          rw [h3_1, cond_false] at hq
          rw [h3_2, cond_true] at hq
          refine pq_s hB 2 (pc' := 31) (L' := [(3, .int v1), (0, .ref 0), (1, .int a0), (2, .int a1)]) (st' := [.long (J1 4 (a1).toNatClampNeg)]) (I' := (tup I1 0 5 0)) (J' := J1) (by with_unfolding_all rfl) ?_
          subst hq
          exact pq_2 (v := some (.long ((J1 4 (a1).toNatClampNeg)))) rfl rfl (by with_unfolding_all rfl) ⟨rfl, rfl, rfl⟩
    ·
          show pq sc B _ _ _ _ (.ref 5 :: _) _ _ _
          rw [h3_0, cond_false] at hq
          rw [h3_1, cond_false] at hq
          rw [h3_2, cond_false] at hq
          refine pq_s hB 2 (pc' := 31) (L' := [(3, .int v1), (0, .ref 0), (1, .int a0), (2, .int a1)]) (st' := [.long (J1 5 (a1).toNatClampNeg)]) (I' := (tup I1 0 5 0)) (J' := J1) (by with_unfolding_all rfl) ?_
          subst hq
          exact pq_2 (v := some (.long ((J1 5 (a1).toNatClampNeg)))) rfl rfl (by with_unfolding_all rfl) ⟨rfl, rfl, rfl⟩
  · rw [h2, cond_false] at hq
    refine pq_s hB 2 (pc' := 13) (L' := [(3, .int v1), (0, .ref 0), (1, .int a0), (2, .int a1)]) (st' := [.int v1, .ref 0]) (I' := I1) (J' := J1) (by with_unfolding_all rfl) ?_
    generalize hc4 : f122_0 I1 J1 v1 = q4 at hq
    obtain ⟨v4, _, _⟩ := q4
    dsimp only at hq
    refine pq_1 rfl rfl rfl rfl (f122_0_pq hB hc4) ?_
    rintro _ I4 J4 ⟨rfl, rfl, rfl⟩
    refine pq_s hB 1 (pc' := 17) (L' := [(3, .int v1), (0, .ref 0), (1, .int a0), (2, .int a1)]) (st' := [.long (v4).toInt64]) (I' := I4) (J' := J4) (by with_unfolding_all rfl) ?_
    subst hq
    exact pq_2 (v := some (.long ((v4).toInt64))) rfl rfl (by with_unfolding_all rfl) ⟨rfl, rfl, rfl⟩
-- LP.pour
def f137_0 (I : tI) (J : tJ) (a0 : Int32) (a1 : Int32) (a2 : Int32) (a3 : Int32) (a4 : Int32) : Int32 × tI × tJ :=
  (match f133 I J a0 with | (v1, I1, J1) => bif xcmp .eq v1 0 then (match f124_0 I1 J1 1 with | (v3, I3, J3) => (v3, I3, J3)) else (match f133 I1 J1 a2 with | (v4, I4, J4) => bif xcmp .eq v4 0 then (match f124_0 I4 J4 1 with | (v6, I6, J6) => (v6, I6, J6)) else bif xcmp .lt a1 0 then (match f124_0 I4 J4 1 with | (v8, I8, J8) => (v8, I8, J8)) else bif xcmp .lt a3 0 then (match f124_0 I4 J4 1 with | (v10, I10, J10) => (v10, I10, J10)) else bif xcmp .ge a4 0 then (bif xcmp .eq (I4 6 (a0).toNatClampNeg) (-1) then (match f124_0 I4 J4 2 with | (v13, I13, J13) => (v13, I13, J13)) else bif xcmp .ne (I4 6 (a2).toNatClampNeg) (-1) then (bif xcmp .eq (I4 6 (a0).toNatClampNeg) (I4 6 (a2).toNatClampNeg) then (bif xcmp .gt a4 ((I4 7 (a0).toNatClampNeg) - a1) then (match f124_0 I4 J4 3 with | (v17, I17, J17) => (v17, I17, J17)) else bif xcmp .le a4 ((I4 7 (a2).toNatClampNeg) - a3) then (bif xcmp .eq a0 0 then (bif xcmp .eq a2 0 then ((match f123_0 I4 (tcp J4 2 ((a3).toNatClampNeg) 2 ((a1).toNatClampNeg) ((a4).toNatClampNeg)) with | (v21, I21, J21) => (v21, I21, J21))) else bif xcmp .eq a2 1 then ((match f123_0 I4 (tcp J4 3 ((a3).toNatClampNeg) 2 ((a1).toNatClampNeg) ((a4).toNatClampNeg)) with | (v22, I22, J22) => (v22, I22, J22))) else bif xcmp .eq a2 2 then ((match f123_0 I4 (tcp J4 4 ((a3).toNatClampNeg) 2 ((a1).toNatClampNeg) ((a4).toNatClampNeg)) with | (v23, I23, J23) => (v23, I23, J23))) else ((match f123_0 I4 (tcp J4 5 ((a3).toNatClampNeg) 2 ((a1).toNatClampNeg) ((a4).toNatClampNeg)) with | (v24, I24, J24) => (v24, I24, J24)))) else bif xcmp .eq a0 1 then (bif xcmp .eq a2 0 then ((match f123_0 I4 (tcp J4 2 ((a3).toNatClampNeg) 3 ((a1).toNatClampNeg) ((a4).toNatClampNeg)) with | (v26, I26, J26) => (v26, I26, J26))) else bif xcmp .eq a2 1 then ((match f123_0 I4 (tcp J4 3 ((a3).toNatClampNeg) 3 ((a1).toNatClampNeg) ((a4).toNatClampNeg)) with | (v27, I27, J27) => (v27, I27, J27))) else bif xcmp .eq a2 2 then ((match f123_0 I4 (tcp J4 4 ((a3).toNatClampNeg) 3 ((a1).toNatClampNeg) ((a4).toNatClampNeg)) with | (v28, I28, J28) => (v28, I28, J28))) else ((match f123_0 I4 (tcp J4 5 ((a3).toNatClampNeg) 3 ((a1).toNatClampNeg) ((a4).toNatClampNeg)) with | (v29, I29, J29) => (v29, I29, J29)))) else bif xcmp .eq a0 2 then (bif xcmp .eq a2 0 then ((match f123_0 I4 (tcp J4 2 ((a3).toNatClampNeg) 4 ((a1).toNatClampNeg) ((a4).toNatClampNeg)) with | (v31, I31, J31) => (v31, I31, J31))) else bif xcmp .eq a2 1 then ((match f123_0 I4 (tcp J4 3 ((a3).toNatClampNeg) 4 ((a1).toNatClampNeg) ((a4).toNatClampNeg)) with | (v32, I32, J32) => (v32, I32, J32))) else bif xcmp .eq a2 2 then ((match f123_0 I4 (tcp J4 4 ((a3).toNatClampNeg) 4 ((a1).toNatClampNeg) ((a4).toNatClampNeg)) with | (v33, I33, J33) => (v33, I33, J33))) else ((match f123_0 I4 (tcp J4 5 ((a3).toNatClampNeg) 4 ((a1).toNatClampNeg) ((a4).toNatClampNeg)) with | (v34, I34, J34) => (v34, I34, J34)))) else (bif xcmp .eq a2 0 then ((match f123_0 I4 (tcp J4 2 ((a3).toNatClampNeg) 5 ((a1).toNatClampNeg) ((a4).toNatClampNeg)) with | (v36, I36, J36) => (v36, I36, J36))) else bif xcmp .eq a2 1 then ((match f123_0 I4 (tcp J4 3 ((a3).toNatClampNeg) 5 ((a1).toNatClampNeg) ((a4).toNatClampNeg)) with | (v37, I37, J37) => (v37, I37, J37))) else bif xcmp .eq a2 2 then ((match f123_0 I4 (tcp J4 4 ((a3).toNatClampNeg) 5 ((a1).toNatClampNeg) ((a4).toNatClampNeg)) with | (v38, I38, J38) => (v38, I38, J38))) else ((match f123_0 I4 (tcp J4 5 ((a3).toNatClampNeg) 5 ((a1).toNatClampNeg) ((a4).toNatClampNeg)) with | (v39, I39, J39) => (v39, I39, J39))))) else (match f124_0 I4 J4 3 with | (v40, I40, J40) => (v40, I40, J40))) else (match f124_0 I4 J4 8 with | (v41, I41, J41) => (v41, I41, J41))) else (match f124_0 I4 J4 2 with | (v42, I42, J42) => (v42, I42, J42))) else (match f124_0 I4 J4 1 with | (v43, I43, J43) => (v43, I43, J43))))
set_option maxRecDepth 100000 in
theorem f137_0_pq {sc : List Int32} {B : xM} {n : Nat} {I : tI} {J : tJ} {a0 : Int32} {a1 : Int32} {a2 : Int32} {a3 : Int32} {a4 : Int32} (hB : kB pT B) : ∀ {q : Int32 × tI × tJ}, f137_0 I J a0 a1 a2 a3 a4 = q → pq sc B n (xt_137, 6, 3) 0 [(0, .ref 0), (1, .int a0), (2, .int a1), (3, .int a2), (4, .int a3), (5, .int a4)] [] I J (fun v I1 J1 => v = some (.int q.1) ∧ I1 = q.2.1 ∧ J1 = q.2.2) := by
  intro q hq
  unfold f137_0 at hq
  refine pq_s hB 1 (pc' := 1) (L' := [(0, .ref 0), (1, .int a0), (2, .int a1), (3, .int a2), (4, .int a3), (5, .int a4)]) (st' := [.int a0]) (I' := I) (J' := J) (by with_unfolding_all rfl) ?_
  generalize hc1 : f133 I J a0 = q1 at hq
  obtain ⟨v1, _, _⟩ := q1
  dsimp only at hq
  refine pq_1 rfl rfl rfl rfl (f133_pq hB hc1) ?_
  rintro _ I1 J1 ⟨rfl, rfl, rfl⟩
  refine pq_ifn hB rfl (fun h2 => ?_) (fun h2 => ?_)
  · rw [h2, cond_true] at hq
    refine pq_s hB 2 (pc' := 30) (L' := [(0, .ref 0), (1, .int a0), (2, .int a1), (3, .int a2), (4, .int a3), (5, .int a4)]) (st' := [.int 1, .ref 0]) (I' := I1) (J' := J1) (by with_unfolding_all rfl) ?_
    generalize hc3 : f124_0 I1 J1 1 = q3 at hq
    obtain ⟨v3, _, _⟩ := q3
    dsimp only at hq
    refine pq_1 rfl rfl rfl rfl (f124_0_pq hB hc3) ?_
    rintro _ I3 J3 ⟨rfl, rfl, rfl⟩
    subst hq
    exact pq_2i (x := v3) rfl ⟨rfl, rfl, rfl⟩
  · rw [h2, cond_false] at hq
    refine pq_s hB 1 (pc' := 8) (L' := [(0, .ref 0), (1, .int a0), (2, .int a1), (3, .int a2), (4, .int a3), (5, .int a4)]) (st' := [.int a2]) (I' := I1) (J' := J1) (by with_unfolding_all rfl) ?_
    generalize hc4 : f133 I1 J1 a2 = q4 at hq
    obtain ⟨v4, _, _⟩ := q4
    dsimp only at hq
    refine pq_1 rfl rfl rfl rfl (f133_pq hB hc4) ?_
    rintro _ I4 J4 ⟨rfl, rfl, rfl⟩
    refine pq_ifn hB rfl (fun h5 => ?_) (fun h5 => ?_)
    · rw [h5, cond_true] at hq
      refine pq_s hB 2 (pc' := 30) (L' := [(0, .ref 0), (1, .int a0), (2, .int a1), (3, .int a2), (4, .int a3), (5, .int a4)]) (st' := [.int 1, .ref 0]) (I' := I4) (J' := J4) (by with_unfolding_all rfl) ?_
      generalize hc6 : f124_0 I4 J4 1 = q6 at hq
      obtain ⟨v6, _, _⟩ := q6
      dsimp only at hq
      refine pq_1 rfl rfl rfl rfl (f124_0_pq hB hc6) ?_
      rintro _ I6 J6 ⟨rfl, rfl, rfl⟩
      subst hq
      exact pq_2i (x := v6) rfl ⟨rfl, rfl, rfl⟩
    · rw [h5, cond_false] at hq
      refine pq_s hB 1 (pc' := 15) (L' := [(0, .ref 0), (1, .int a0), (2, .int a1), (3, .int a2), (4, .int a3), (5, .int a4)]) (st' := [.int a1]) (I' := I4) (J' := J4) (by with_unfolding_all rfl) ?_
      refine pq_ifn hB rfl (fun h7 => ?_) (fun h7 => ?_)
      · rw [h7, cond_true] at hq
        refine pq_s hB 2 (pc' := 30) (L' := [(0, .ref 0), (1, .int a0), (2, .int a1), (3, .int a2), (4, .int a3), (5, .int a4)]) (st' := [.int 1, .ref 0]) (I' := I4) (J' := J4) (by with_unfolding_all rfl) ?_
        generalize hc8 : f124_0 I4 J4 1 = q8 at hq
        obtain ⟨v8, _, _⟩ := q8
        dsimp only at hq
        refine pq_1 rfl rfl rfl rfl (f124_0_pq hB hc8) ?_
        rintro _ I8 J8 ⟨rfl, rfl, rfl⟩
        subst hq
        exact pq_2i (x := v8) rfl ⟨rfl, rfl, rfl⟩
      · rw [h7, cond_false] at hq
        refine pq_s hB 1 (pc' := 20) (L' := [(0, .ref 0), (1, .int a0), (2, .int a1), (3, .int a2), (4, .int a3), (5, .int a4)]) (st' := [.int a3]) (I' := I4) (J' := J4) (by with_unfolding_all rfl) ?_
        refine pq_ifn hB rfl (fun h9 => ?_) (fun h9 => ?_)
        · rw [h9, cond_true] at hq
          refine pq_s hB 2 (pc' := 30) (L' := [(0, .ref 0), (1, .int a0), (2, .int a1), (3, .int a2), (4, .int a3), (5, .int a4)]) (st' := [.int 1, .ref 0]) (I' := I4) (J' := J4) (by with_unfolding_all rfl) ?_
          generalize hc10 : f124_0 I4 J4 1 = q10 at hq
          obtain ⟨v10, _, _⟩ := q10
          dsimp only at hq
          refine pq_1 rfl rfl rfl rfl (f124_0_pq hB hc10) ?_
          rintro _ I10 J10 ⟨rfl, rfl, rfl⟩
          subst hq
          exact pq_2i (x := v10) rfl ⟨rfl, rfl, rfl⟩
        · rw [h9, cond_false] at hq
          refine pq_s hB 1 (pc' := 25) (L' := [(0, .ref 0), (1, .int a0), (2, .int a1), (3, .int a2), (4, .int a3), (5, .int a4)]) (st' := [.int a4]) (I' := I4) (J' := J4) (by with_unfolding_all rfl) ?_
          refine pq_ifn hB rfl (fun h11 => ?_) (fun h11 => ?_)
          · rw [h11, cond_true] at hq
            refine pq_s hB 5 (pc' := 41) (L' := [(0, .ref 0), (1, .int a0), (2, .int a1), (3, .int a2), (4, .int a3), (5, .int a4)]) (st' := [.int (-1), .int (I4 6 (a0).toNatClampNeg)]) (I' := I4) (J' := J4) (by with_unfolding_all rfl) ?_
            refine pq_icn hB rfl (fun h12 => ?_) (fun h12 => ?_)
            · rw [h12, cond_true] at hq
              refine pq_s hB 2 (pc' := 56) (L' := [(0, .ref 0), (1, .int a0), (2, .int a1), (3, .int a2), (4, .int a3), (5, .int a4)]) (st' := [.int 2, .ref 0]) (I' := I4) (J' := J4) (by with_unfolding_all rfl) ?_
              generalize hc13 : f124_0 I4 J4 2 = q13 at hq
              obtain ⟨v13, _, _⟩ := q13
              dsimp only at hq
              refine pq_1 rfl rfl rfl rfl (f124_0_pq hB hc13) ?_
              rintro _ I13 J13 ⟨rfl, rfl, rfl⟩
              subst hq
              exact pq_2i (x := v13) rfl ⟨rfl, rfl, rfl⟩
            · rw [h12, cond_false] at hq
              refine pq_s hB 5 (pc' := 51) (L' := [(0, .ref 0), (1, .int a0), (2, .int a1), (3, .int a2), (4, .int a3), (5, .int a4)]) (st' := [.int (-1), .int (I4 6 (a2).toNatClampNeg)]) (I' := I4) (J' := J4) (by with_unfolding_all rfl) ?_
              refine pq_icn hB rfl (fun h14 => ?_) (fun h14 => ?_)
              · rw [h14, cond_true] at hq
                refine pq_s hB 8 (pc' := 72) (L' := [(0, .ref 0), (1, .int a0), (2, .int a1), (3, .int a2), (4, .int a3), (5, .int a4)]) (st' := [.int (I4 6 (a2).toNatClampNeg), .int (I4 6 (a0).toNatClampNeg)]) (I' := I4) (J' := J4) (by with_unfolding_all rfl) ?_
                refine pq_icn hB rfl (fun h15 => ?_) (fun h15 => ?_)
                · rw [h15, cond_true] at hq
                  refine pq_s hB 7 (pc' := 92) (L' := [(0, .ref 0), (1, .int a0), (2, .int a1), (3, .int a2), (4, .int a3), (5, .int a4)]) (st' := [.int ((I4 7 (a0).toNatClampNeg) - a1), .int a4]) (I' := I4) (J' := J4) (by with_unfolding_all rfl) ?_
                  refine pq_icn hB rfl (fun h16 => ?_) (fun h16 => ?_)
                  · rw [h16, cond_true] at hq
                    refine pq_s hB 2 (pc' := 111) (L' := [(0, .ref 0), (1, .int a0), (2, .int a1), (3, .int a2), (4, .int a3), (5, .int a4)]) (st' := [.int 3, .ref 0]) (I' := I4) (J' := J4) (by with_unfolding_all rfl) ?_
                    generalize hc17 : f124_0 I4 J4 3 = q17 at hq
                    obtain ⟨v17, _, _⟩ := q17
                    dsimp only at hq
                    refine pq_1 rfl rfl rfl rfl (f124_0_pq hB hc17) ?_
                    rintro _ I17 J17 ⟨rfl, rfl, rfl⟩
                    subst hq
                    exact pq_2i (x := v17) rfl ⟨rfl, rfl, rfl⟩
                  · rw [h16, cond_false] at hq
                    refine pq_s hB 7 (pc' := 106) (L' := [(0, .ref 0), (1, .int a0), (2, .int a1), (3, .int a2), (4, .int a3), (5, .int a4)]) (st' := [.int ((I4 7 (a2).toNatClampNeg) - a3), .int a4]) (I' := I4) (J' := J4) (by with_unfolding_all rfl) ?_
                    refine pq_icn hB rfl (fun h18 => ?_) (fun h18 => ?_)
                    · rw [h18, cond_true] at hq
                      refine pq_s hB 3 (pc' := 120) (L' := [(0, .ref 0), (1, .int a0), (2, .int a1), (3, .int a2), (4, .int a3), (5, .int a4)]) (st' := [.int a0, .ref 1]) (I' := I4) (J' := J4) (by with_unfolding_all rfl) ?_
                      refine pq_aal4 hB rfl (by decide +kernel) (fun h19_0 => ?_) (fun h19_0 h19_1 => ?_) (fun h19_0 h19_1 h19_2 => ?_) (fun h19_0 h19_1 h19_2 => ?_)
                      ·
                        show pq sc B _ _ _ _ (.ref 2 :: _) _ _ _
                        rw [h19_0, cond_true] at hq
                        refine pq_s hB 4 (pc' := 127) (L' := [(0, .ref 0), (1, .int a0), (2, .int a1), (3, .int a2), (4, .int a3), (5, .int a4)]) (st' := [.int a2, .ref 1, .int a1, .ref 2]) (I' := I4) (J' := J4) (by with_unfolding_all rfl) ?_
                        refine pq_aal4 hB rfl (by decide +kernel) (fun h20_0 => ?_) (fun h20_0 h20_1 => ?_) (fun h20_0 h20_1 h20_2 => ?_) (fun h20_0 h20_1 h20_2 => ?_)
                        ·
                          show pq sc B _ _ _ _ (.ref 2 :: _) _ _ _
                          rw [h20_0, cond_true] at hq
                          refine pq_s hB 4 (pc' := 136) (L' := [(0, .ref 0), (1, .int a0), (2, .int a1), (3, .int a2), (4, .int a3), (5, .int a4)]) (st' := [.ref 0]) (I' := I4) (J' := (tcp J4 2 ((a3).toNatClampNeg) 2 ((a1).toNatClampNeg) ((a4).toNatClampNeg))) (by with_unfolding_all rfl) ?_
                          generalize hc21 : f123_0 I4 (tcp J4 2 ((a3).toNatClampNeg) 2 ((a1).toNatClampNeg) ((a4).toNatClampNeg)) = q21 at hq
                          obtain ⟨v21, _, _⟩ := q21
                          dsimp only at hq
                          refine pq_1 rfl rfl rfl rfl (f123_0_pq hB hc21) ?_
                          rintro _ I21 J21 ⟨rfl, rfl, rfl⟩
                          subst hq
                          exact pq_2i (x := v21) rfl ⟨rfl, rfl, rfl⟩
                        ·
                            show pq sc B _ _ _ _ (.ref 3 :: _) _ _ _
                            rw [h20_0, cond_false] at hq
                            rw [h20_1, cond_true] at hq
                            refine pq_s hB 4 (pc' := 136) (L' := [(0, .ref 0), (1, .int a0), (2, .int a1), (3, .int a2), (4, .int a3), (5, .int a4)]) (st' := [.ref 0]) (I' := I4) (J' := (tcp J4 3 ((a3).toNatClampNeg) 2 ((a1).toNatClampNeg) ((a4).toNatClampNeg))) (by with_unfolding_all rfl) ?_
                            generalize hc22 : f123_0 I4 (tcp J4 3 ((a3).toNatClampNeg) 2 ((a1).toNatClampNeg) ((a4).toNatClampNeg)) = q22 at hq
                            obtain ⟨v22, _, _⟩ := q22
                            dsimp only at hq
                            refine pq_1 rfl rfl rfl rfl (f123_0_pq hB hc22) ?_
                            rintro _ I22 J22 ⟨rfl, rfl, rfl⟩
                            subst hq
                            exact pq_2i (x := v22) rfl ⟨rfl, rfl, rfl⟩
                        ·
                              show pq sc B _ _ _ _ (.ref 4 :: _) _ _ _
                              rw [h20_0, cond_false] at hq
                              rw [h20_1, cond_false] at hq
                              rw [h20_2, cond_true] at hq
                              refine pq_s hB 4 (pc' := 136) (L' := [(0, .ref 0), (1, .int a0), (2, .int a1), (3, .int a2), (4, .int a3), (5, .int a4)]) (st' := [.ref 0]) (I' := I4) (J' := (tcp J4 4 ((a3).toNatClampNeg) 2 ((a1).toNatClampNeg) ((a4).toNatClampNeg))) (by with_unfolding_all rfl) ?_
                              generalize hc23 : f123_0 I4 (tcp J4 4 ((a3).toNatClampNeg) 2 ((a1).toNatClampNeg) ((a4).toNatClampNeg)) = q23 at hq
                              obtain ⟨v23, _, _⟩ := q23
                              dsimp only at hq
                              refine pq_1 rfl rfl rfl rfl (f123_0_pq hB hc23) ?_
                              rintro _ I23 J23 ⟨rfl, rfl, rfl⟩
                              subst hq
                              exact pq_2i (x := v23) rfl ⟨rfl, rfl, rfl⟩
                        ·
                              show pq sc B _ _ _ _ (.ref 5 :: _) _ _ _
                              rw [h20_0, cond_false] at hq
                              rw [h20_1, cond_false] at hq
                              rw [h20_2, cond_false] at hq
                              refine pq_s hB 4 (pc' := 136) (L' := [(0, .ref 0), (1, .int a0), (2, .int a1), (3, .int a2), (4, .int a3), (5, .int a4)]) (st' := [.ref 0]) (I' := I4) (J' := (tcp J4 5 ((a3).toNatClampNeg) 2 ((a1).toNatClampNeg) ((a4).toNatClampNeg))) (by with_unfolding_all rfl) ?_
                              generalize hc24 : f123_0 I4 (tcp J4 5 ((a3).toNatClampNeg) 2 ((a1).toNatClampNeg) ((a4).toNatClampNeg)) = q24 at hq
                              obtain ⟨v24, _, _⟩ := q24
                              dsimp only at hq
                              refine pq_1 rfl rfl rfl rfl (f123_0_pq hB hc24) ?_
                              rintro _ I24 J24 ⟨rfl, rfl, rfl⟩
                              subst hq
                              exact pq_2i (x := v24) rfl ⟨rfl, rfl, rfl⟩
                      ·
                          show pq sc B _ _ _ _ (.ref 3 :: _) _ _ _
                          rw [h19_0, cond_false] at hq
                          rw [h19_1, cond_true] at hq
                          refine pq_s hB 4 (pc' := 127) (L' := [(0, .ref 0), (1, .int a0), (2, .int a1), (3, .int a2), (4, .int a3), (5, .int a4)]) (st' := [.int a2, .ref 1, .int a1, .ref 3]) (I' := I4) (J' := J4) (by with_unfolding_all rfl) ?_
                          refine pq_aal4 hB rfl (by decide +kernel) (fun h25_0 => ?_) (fun h25_0 h25_1 => ?_) (fun h25_0 h25_1 h25_2 => ?_) (fun h25_0 h25_1 h25_2 => ?_)
                          ·
                            show pq sc B _ _ _ _ (.ref 2 :: _) _ _ _
                            rw [h25_0, cond_true] at hq
                            refine pq_s hB 4 (pc' := 136) (L' := [(0, .ref 0), (1, .int a0), (2, .int a1), (3, .int a2), (4, .int a3), (5, .int a4)]) (st' := [.ref 0]) (I' := I4) (J' := (tcp J4 2 ((a3).toNatClampNeg) 3 ((a1).toNatClampNeg) ((a4).toNatClampNeg))) (by with_unfolding_all rfl) ?_
                            generalize hc26 : f123_0 I4 (tcp J4 2 ((a3).toNatClampNeg) 3 ((a1).toNatClampNeg) ((a4).toNatClampNeg)) = q26 at hq
                            obtain ⟨v26, _, _⟩ := q26
                            dsimp only at hq
                            refine pq_1 rfl rfl rfl rfl (f123_0_pq hB hc26) ?_
                            rintro _ I26 J26 ⟨rfl, rfl, rfl⟩
                            subst hq
                            exact pq_2i (x := v26) rfl ⟨rfl, rfl, rfl⟩
                          ·
                              show pq sc B _ _ _ _ (.ref 3 :: _) _ _ _
                              rw [h25_0, cond_false] at hq
                              rw [h25_1, cond_true] at hq
                              refine pq_s hB 4 (pc' := 136) (L' := [(0, .ref 0), (1, .int a0), (2, .int a1), (3, .int a2), (4, .int a3), (5, .int a4)]) (st' := [.ref 0]) (I' := I4) (J' := (tcp J4 3 ((a3).toNatClampNeg) 3 ((a1).toNatClampNeg) ((a4).toNatClampNeg))) (by with_unfolding_all rfl) ?_
                              generalize hc27 : f123_0 I4 (tcp J4 3 ((a3).toNatClampNeg) 3 ((a1).toNatClampNeg) ((a4).toNatClampNeg)) = q27 at hq
                              obtain ⟨v27, _, _⟩ := q27
                              dsimp only at hq
                              refine pq_1 rfl rfl rfl rfl (f123_0_pq hB hc27) ?_
                              rintro _ I27 J27 ⟨rfl, rfl, rfl⟩
                              subst hq
                              exact pq_2i (x := v27) rfl ⟨rfl, rfl, rfl⟩
                          ·
                                show pq sc B _ _ _ _ (.ref 4 :: _) _ _ _
                                rw [h25_0, cond_false] at hq
                                rw [h25_1, cond_false] at hq
                                rw [h25_2, cond_true] at hq
                                refine pq_s hB 4 (pc' := 136) (L' := [(0, .ref 0), (1, .int a0), (2, .int a1), (3, .int a2), (4, .int a3), (5, .int a4)]) (st' := [.ref 0]) (I' := I4) (J' := (tcp J4 4 ((a3).toNatClampNeg) 3 ((a1).toNatClampNeg) ((a4).toNatClampNeg))) (by with_unfolding_all rfl) ?_
                                generalize hc28 : f123_0 I4 (tcp J4 4 ((a3).toNatClampNeg) 3 ((a1).toNatClampNeg) ((a4).toNatClampNeg)) = q28 at hq
                                obtain ⟨v28, _, _⟩ := q28
                                dsimp only at hq
                                refine pq_1 rfl rfl rfl rfl (f123_0_pq hB hc28) ?_
                                rintro _ I28 J28 ⟨rfl, rfl, rfl⟩
                                subst hq
                                exact pq_2i (x := v28) rfl ⟨rfl, rfl, rfl⟩
                          ·
                                show pq sc B _ _ _ _ (.ref 5 :: _) _ _ _
                                rw [h25_0, cond_false] at hq
                                rw [h25_1, cond_false] at hq
                                rw [h25_2, cond_false] at hq
                                refine pq_s hB 4 (pc' := 136) (L' := [(0, .ref 0), (1, .int a0), (2, .int a1), (3, .int a2), (4, .int a3), (5, .int a4)]) (st' := [.ref 0]) (I' := I4) (J' := (tcp J4 5 ((a3).toNatClampNeg) 3 ((a1).toNatClampNeg) ((a4).toNatClampNeg))) (by with_unfolding_all rfl) ?_
                                generalize hc29 : f123_0 I4 (tcp J4 5 ((a3).toNatClampNeg) 3 ((a1).toNatClampNeg) ((a4).toNatClampNeg)) = q29 at hq
                                obtain ⟨v29, _, _⟩ := q29
                                dsimp only at hq
                                refine pq_1 rfl rfl rfl rfl (f123_0_pq hB hc29) ?_
                                rintro _ I29 J29 ⟨rfl, rfl, rfl⟩
                                subst hq
                                exact pq_2i (x := v29) rfl ⟨rfl, rfl, rfl⟩
                      ·
                            show pq sc B _ _ _ _ (.ref 4 :: _) _ _ _
                            rw [h19_0, cond_false] at hq
                            rw [h19_1, cond_false] at hq
                            rw [h19_2, cond_true] at hq
                            refine pq_s hB 4 (pc' := 127) (L' := [(0, .ref 0), (1, .int a0), (2, .int a1), (3, .int a2), (4, .int a3), (5, .int a4)]) (st' := [.int a2, .ref 1, .int a1, .ref 4]) (I' := I4) (J' := J4) (by with_unfolding_all rfl) ?_
                            refine pq_aal4 hB rfl (by decide +kernel) (fun h30_0 => ?_) (fun h30_0 h30_1 => ?_) (fun h30_0 h30_1 h30_2 => ?_) (fun h30_0 h30_1 h30_2 => ?_)
                            ·
                              show pq sc B _ _ _ _ (.ref 2 :: _) _ _ _
                              rw [h30_0, cond_true] at hq
                              refine pq_s hB 4 (pc' := 136) (L' := [(0, .ref 0), (1, .int a0), (2, .int a1), (3, .int a2), (4, .int a3), (5, .int a4)]) (st' := [.ref 0]) (I' := I4) (J' := (tcp J4 2 ((a3).toNatClampNeg) 4 ((a1).toNatClampNeg) ((a4).toNatClampNeg))) (by with_unfolding_all rfl) ?_
                              generalize hc31 : f123_0 I4 (tcp J4 2 ((a3).toNatClampNeg) 4 ((a1).toNatClampNeg) ((a4).toNatClampNeg)) = q31 at hq
                              obtain ⟨v31, _, _⟩ := q31
                              dsimp only at hq
                              refine pq_1 rfl rfl rfl rfl (f123_0_pq hB hc31) ?_
                              rintro _ I31 J31 ⟨rfl, rfl, rfl⟩
                              subst hq
                              exact pq_2i (x := v31) rfl ⟨rfl, rfl, rfl⟩
                            ·
                                show pq sc B _ _ _ _ (.ref 3 :: _) _ _ _
                                rw [h30_0, cond_false] at hq
                                rw [h30_1, cond_true] at hq
                                refine pq_s hB 4 (pc' := 136) (L' := [(0, .ref 0), (1, .int a0), (2, .int a1), (3, .int a2), (4, .int a3), (5, .int a4)]) (st' := [.ref 0]) (I' := I4) (J' := (tcp J4 3 ((a3).toNatClampNeg) 4 ((a1).toNatClampNeg) ((a4).toNatClampNeg))) (by with_unfolding_all rfl) ?_
                                generalize hc32 : f123_0 I4 (tcp J4 3 ((a3).toNatClampNeg) 4 ((a1).toNatClampNeg) ((a4).toNatClampNeg)) = q32 at hq
                                obtain ⟨v32, _, _⟩ := q32
                                dsimp only at hq
                                refine pq_1 rfl rfl rfl rfl (f123_0_pq hB hc32) ?_
                                rintro _ I32 J32 ⟨rfl, rfl, rfl⟩
                                subst hq
                                exact pq_2i (x := v32) rfl ⟨rfl, rfl, rfl⟩
                            ·
                                  show pq sc B _ _ _ _ (.ref 4 :: _) _ _ _
                                  rw [h30_0, cond_false] at hq
                                  rw [h30_1, cond_false] at hq
                                  rw [h30_2, cond_true] at hq
                                  refine pq_s hB 4 (pc' := 136) (L' := [(0, .ref 0), (1, .int a0), (2, .int a1), (3, .int a2), (4, .int a3), (5, .int a4)]) (st' := [.ref 0]) (I' := I4) (J' := (tcp J4 4 ((a3).toNatClampNeg) 4 ((a1).toNatClampNeg) ((a4).toNatClampNeg))) (by with_unfolding_all rfl) ?_
                                  generalize hc33 : f123_0 I4 (tcp J4 4 ((a3).toNatClampNeg) 4 ((a1).toNatClampNeg) ((a4).toNatClampNeg)) = q33 at hq
                                  obtain ⟨v33, _, _⟩ := q33
                                  dsimp only at hq
                                  refine pq_1 rfl rfl rfl rfl (f123_0_pq hB hc33) ?_
                                  rintro _ I33 J33 ⟨rfl, rfl, rfl⟩
                                  subst hq
                                  exact pq_2i (x := v33) rfl ⟨rfl, rfl, rfl⟩
                            ·
                                  show pq sc B _ _ _ _ (.ref 5 :: _) _ _ _
                                  rw [h30_0, cond_false] at hq
                                  rw [h30_1, cond_false] at hq
                                  rw [h30_2, cond_false] at hq
                                  refine pq_s hB 4 (pc' := 136) (L' := [(0, .ref 0), (1, .int a0), (2, .int a1), (3, .int a2), (4, .int a3), (5, .int a4)]) (st' := [.ref 0]) (I' := I4) (J' := (tcp J4 5 ((a3).toNatClampNeg) 4 ((a1).toNatClampNeg) ((a4).toNatClampNeg))) (by with_unfolding_all rfl) ?_
                                  generalize hc34 : f123_0 I4 (tcp J4 5 ((a3).toNatClampNeg) 4 ((a1).toNatClampNeg) ((a4).toNatClampNeg)) = q34 at hq
                                  obtain ⟨v34, _, _⟩ := q34
                                  dsimp only at hq
                                  refine pq_1 rfl rfl rfl rfl (f123_0_pq hB hc34) ?_
                                  rintro _ I34 J34 ⟨rfl, rfl, rfl⟩
                                  subst hq
                                  exact pq_2i (x := v34) rfl ⟨rfl, rfl, rfl⟩
                      ·
                            show pq sc B _ _ _ _ (.ref 5 :: _) _ _ _
                            rw [h19_0, cond_false] at hq
                            rw [h19_1, cond_false] at hq
                            rw [h19_2, cond_false] at hq
                            refine pq_s hB 4 (pc' := 127) (L' := [(0, .ref 0), (1, .int a0), (2, .int a1), (3, .int a2), (4, .int a3), (5, .int a4)]) (st' := [.int a2, .ref 1, .int a1, .ref 5]) (I' := I4) (J' := J4) (by with_unfolding_all rfl) ?_
                            refine pq_aal4 hB rfl (by decide +kernel) (fun h35_0 => ?_) (fun h35_0 h35_1 => ?_) (fun h35_0 h35_1 h35_2 => ?_) (fun h35_0 h35_1 h35_2 => ?_)
                            ·
                              show pq sc B _ _ _ _ (.ref 2 :: _) _ _ _
                              rw [h35_0, cond_true] at hq
                              refine pq_s hB 4 (pc' := 136) (L' := [(0, .ref 0), (1, .int a0), (2, .int a1), (3, .int a2), (4, .int a3), (5, .int a4)]) (st' := [.ref 0]) (I' := I4) (J' := (tcp J4 2 ((a3).toNatClampNeg) 5 ((a1).toNatClampNeg) ((a4).toNatClampNeg))) (by with_unfolding_all rfl) ?_
                              generalize hc36 : f123_0 I4 (tcp J4 2 ((a3).toNatClampNeg) 5 ((a1).toNatClampNeg) ((a4).toNatClampNeg)) = q36 at hq
                              obtain ⟨v36, _, _⟩ := q36
                              dsimp only at hq
                              refine pq_1 rfl rfl rfl rfl (f123_0_pq hB hc36) ?_
                              rintro _ I36 J36 ⟨rfl, rfl, rfl⟩
                              subst hq
                              exact pq_2i (x := v36) rfl ⟨rfl, rfl, rfl⟩
                            ·
                                show pq sc B _ _ _ _ (.ref 3 :: _) _ _ _
                                rw [h35_0, cond_false] at hq
                                rw [h35_1, cond_true] at hq
                                refine pq_s hB 4 (pc' := 136) (L' := [(0, .ref 0), (1, .int a0), (2, .int a1), (3, .int a2), (4, .int a3), (5, .int a4)]) (st' := [.ref 0]) (I' := I4) (J' := (tcp J4 3 ((a3).toNatClampNeg) 5 ((a1).toNatClampNeg) ((a4).toNatClampNeg))) (by with_unfolding_all rfl) ?_
                                generalize hc37 : f123_0 I4 (tcp J4 3 ((a3).toNatClampNeg) 5 ((a1).toNatClampNeg) ((a4).toNatClampNeg)) = q37 at hq
                                obtain ⟨v37, _, _⟩ := q37
                                dsimp only at hq
                                refine pq_1 rfl rfl rfl rfl (f123_0_pq hB hc37) ?_
                                rintro _ I37 J37 ⟨rfl, rfl, rfl⟩
                                subst hq
                                exact pq_2i (x := v37) rfl ⟨rfl, rfl, rfl⟩
                            ·
                                  show pq sc B _ _ _ _ (.ref 4 :: _) _ _ _
                                  rw [h35_0, cond_false] at hq
                                  rw [h35_1, cond_false] at hq
                                  rw [h35_2, cond_true] at hq
                                  refine pq_s hB 4 (pc' := 136) (L' := [(0, .ref 0), (1, .int a0), (2, .int a1), (3, .int a2), (4, .int a3), (5, .int a4)]) (st' := [.ref 0]) (I' := I4) (J' := (tcp J4 4 ((a3).toNatClampNeg) 5 ((a1).toNatClampNeg) ((a4).toNatClampNeg))) (by with_unfolding_all rfl) ?_
                                  generalize hc38 : f123_0 I4 (tcp J4 4 ((a3).toNatClampNeg) 5 ((a1).toNatClampNeg) ((a4).toNatClampNeg)) = q38 at hq
                                  obtain ⟨v38, _, _⟩ := q38
                                  dsimp only at hq
                                  refine pq_1 rfl rfl rfl rfl (f123_0_pq hB hc38) ?_
                                  rintro _ I38 J38 ⟨rfl, rfl, rfl⟩
                                  subst hq
                                  exact pq_2i (x := v38) rfl ⟨rfl, rfl, rfl⟩
                            ·
                                  show pq sc B _ _ _ _ (.ref 5 :: _) _ _ _
                                  rw [h35_0, cond_false] at hq
                                  rw [h35_1, cond_false] at hq
                                  rw [h35_2, cond_false] at hq
                                  refine pq_s hB 4 (pc' := 136) (L' := [(0, .ref 0), (1, .int a0), (2, .int a1), (3, .int a2), (4, .int a3), (5, .int a4)]) (st' := [.ref 0]) (I' := I4) (J' := (tcp J4 5 ((a3).toNatClampNeg) 5 ((a1).toNatClampNeg) ((a4).toNatClampNeg))) (by with_unfolding_all rfl) ?_
                                  generalize hc39 : f123_0 I4 (tcp J4 5 ((a3).toNatClampNeg) 5 ((a1).toNatClampNeg) ((a4).toNatClampNeg)) = q39 at hq
                                  obtain ⟨v39, _, _⟩ := q39
                                  dsimp only at hq
                                  refine pq_1 rfl rfl rfl rfl (f123_0_pq hB hc39) ?_
                                  rintro _ I39 J39 ⟨rfl, rfl, rfl⟩
                                  subst hq
                                  exact pq_2i (x := v39) rfl ⟨rfl, rfl, rfl⟩
                    · rw [h18, cond_false] at hq
                      refine pq_s hB 2 (pc' := 111) (L' := [(0, .ref 0), (1, .int a0), (2, .int a1), (3, .int a2), (4, .int a3), (5, .int a4)]) (st' := [.int 3, .ref 0]) (I' := I4) (J' := J4) (by with_unfolding_all rfl) ?_
                      generalize hc40 : f124_0 I4 J4 3 = q40 at hq
                      obtain ⟨v40, _, _⟩ := q40
                      dsimp only at hq
                      refine pq_1 rfl rfl rfl rfl (f124_0_pq hB hc40) ?_
                      rintro _ I40 J40 ⟨rfl, rfl, rfl⟩
                      subst hq
                      exact pq_2i (x := v40) rfl ⟨rfl, rfl, rfl⟩
                · rw [h15, cond_false] at hq
                  refine pq_s hB 2 (pc' := 78) (L' := [(0, .ref 0), (1, .int a0), (2, .int a1), (3, .int a2), (4, .int a3), (5, .int a4)]) (st' := [.int 8, .ref 0]) (I' := I4) (J' := J4) (by with_unfolding_all rfl) ?_
                  generalize hc41 : f124_0 I4 J4 8 = q41 at hq
                  obtain ⟨v41, _, _⟩ := q41
                  dsimp only at hq
                  refine pq_1 rfl rfl rfl rfl (f124_0_pq hB hc41) ?_
                  rintro _ I41 J41 ⟨rfl, rfl, rfl⟩
                  subst hq
                  exact pq_2i (x := v41) rfl ⟨rfl, rfl, rfl⟩
              · rw [h14, cond_false] at hq
                refine pq_s hB 2 (pc' := 56) (L' := [(0, .ref 0), (1, .int a0), (2, .int a1), (3, .int a2), (4, .int a3), (5, .int a4)]) (st' := [.int 2, .ref 0]) (I' := I4) (J' := J4) (by with_unfolding_all rfl) ?_
                generalize hc42 : f124_0 I4 J4 2 = q42 at hq
                obtain ⟨v42, _, _⟩ := q42
                dsimp only at hq
                refine pq_1 rfl rfl rfl rfl (f124_0_pq hB hc42) ?_
                rintro _ I42 J42 ⟨rfl, rfl, rfl⟩
                subst hq
                exact pq_2i (x := v42) rfl ⟨rfl, rfl, rfl⟩
          · rw [h11, cond_false] at hq
            refine pq_s hB 2 (pc' := 30) (L' := [(0, .ref 0), (1, .int a0), (2, .int a1), (3, .int a2), (4, .int a3), (5, .int a4)]) (st' := [.int 1, .ref 0]) (I' := I4) (J' := J4) (by with_unfolding_all rfl) ?_
            generalize hc43 : f124_0 I4 J4 1 = q43 at hq
            obtain ⟨v43, _, _⟩ := q43
            dsimp only at hq
            refine pq_1 rfl rfl rfl rfl (f124_0_pq hB hc43) ?_
            rintro _ I43 J43 ⟨rfl, rfl, rfl⟩
            subst hq
            exact pq_2i (x := v43) rfl ⟨rfl, rfl, rfl⟩
-- LPModel.isTray
def f209 (I : tI) (J : tJ) (a0 : Int32) : Int32 × tI × tJ :=
  bif xcmp .lt a0 0 then (0, I, J) else bif xcmp .ge a0 4 then (0, I, J) else (1, I, J)
set_option maxRecDepth 100000 in
theorem f209_pq {sc : List Int32} {B : xM} {n : Nat} {I : tI} {J : tJ} {a0 : Int32} (hB : kB pT B) : ∀ {q : Int32 × tI × tJ}, f209 I J a0 = q → pq sc B n (xt_209, 1, 3) 0 [(0, .int a0)] [] I J (fun v I1 J1 => v = some (.int q.1) ∧ I1 = q.2.1 ∧ J1 = q.2.2) := by
  intro q hq
  unfold f209 at hq
  refine pq_s hB 1 (pc' := 1) (L' := [(0, .int a0)]) (st' := [.int a0]) (I' := I) (J' := J) (by with_unfolding_all rfl) ?_
  refine pq_ifn hB rfl (fun h1 => ?_) (fun h1 => ?_)
  · rw [h1, cond_true] at hq
    refine pq_s hB 1 (pc' := 14) (L' := [(0, .int a0)]) (st' := [.int 0]) (I' := I) (J' := J) (by with_unfolding_all rfl) ?_
    subst hq
    exact pq_2i (x := 0) rfl ⟨rfl, rfl, rfl⟩
  · rw [h1, cond_false] at hq
    refine pq_s hB 2 (pc' := 6) (L' := [(0, .int a0)]) (st' := [.int 4, .int a0]) (I' := I) (J' := J) (by with_unfolding_all rfl) ?_
    refine pq_icn hB rfl (fun h2 => ?_) (fun h2 => ?_)
    · rw [h2, cond_true] at hq
      refine pq_s hB 1 (pc' := 14) (L' := [(0, .int a0)]) (st' := [.int 0]) (I' := I) (J' := J) (by with_unfolding_all rfl) ?_
      subst hq
      exact pq_2i (x := 0) rfl ⟨rfl, rfl, rfl⟩
    · rw [h2, cond_false] at hq
      refine pq_s hB 2 (pc' := 14) (L' := [(0, .int a0)]) (st' := [.int 1]) (I' := I) (J' := J) (by with_unfolding_all rfl) ?_
      subst hq
      exact pq_2i (x := 1) rfl ⟨rfl, rfl, rfl⟩
-- LPModel.is
def f204_185 (I : tI) (J : tJ) (a0 : Int32) : Int32 × tI × tJ :=
  bif xcmp .ne a0 0 then (0, (tup I 185 2 a0), J) else (1, (tup I 185 2 a0), J)
set_option maxRecDepth 100000 in
theorem f204_185_pq {sc : List Int32} {B : xM} {n : Nat} {I : tI} {J : tJ} {a0 : Int32} (hB : kB pT B) : ∀ {q : Int32 × tI × tJ}, f204_185 I J a0 = q → pq sc B n (xt_204, 2, 3) 0 [(0, .ref 185), (1, .int a0)] [] I J (fun v I1 J1 => v = some (.int q.1) ∧ I1 = q.2.1 ∧ J1 = q.2.2) := by
  intro q hq
  unfold f204_185 at hq
  refine pq_s hB 4 (pc' := 6) (L' := [(0, .ref 185), (1, .int a0)]) (st' := [.int a0]) (I' := (tup I 185 2 a0)) (J' := J) (by with_unfolding_all rfl) ?_
  refine pq_ifn hB rfl (fun h1 => ?_) (fun h1 => ?_)
  · rw [h1, cond_true] at hq
    refine pq_s hB 1 (pc' := 14) (L' := [(0, .ref 185), (1, .int a0)]) (st' := [.int 0]) (I' := (tup I 185 2 a0)) (J' := J) (by with_unfolding_all rfl) ?_
    subst hq
    exact pq_2i (x := 0) rfl ⟨rfl, rfl, rfl⟩
  · rw [h1, cond_false] at hq
    refine pq_s hB 2 (pc' := 14) (L' := [(0, .ref 185), (1, .int a0)]) (st' := [.int 1]) (I' := (tup I 185 2 a0)) (J' := J) (by with_unfolding_all rfl) ?_
    subst hq
    exact pq_2i (x := 1) rfl ⟨rfl, rfl, rfl⟩
-- LPModel.tray, the loop at 49, to [74]
def f211_185_l49 (N : Nat) : Nat → tI → tJ → Int32 → Int32 → Int32 → Option (Int32 × Int32 × Int32 × tI × tJ)
  | 0, _, _, _, _, _ => none
  | k + 1, I, J, x1, x3, x4 =>
    bif xcmp .ge x4 x3 then some (x1, x3, x4, I, J) else f211_185_l49 N k I (tup J 190 ((((60 * x1) + x4)).toNatClampNeg) 0) x1 x3 (x4 + 1)
set_option maxRecDepth 100000 in
theorem f211_185_l49_pq {sc : List Int32} {B : xM} {N : Nat} {P : Option Value → tI → tJ → Prop} (hB : kB pT B) : ∀ (k : Nat), k ≤ N → ∀ (b m : Nat), b ≤ k → b ≤ m → ∀ {I : tI} {J : tJ} {x1 : Int32} {x3 : Int32} {x4 : Int32} {Y : Option (Int32 × Int32 × Int32 × tI × tJ)}, f211_185_l49 N k I J x1 x3 x4 = Y → (∀ {y1 : Int32} {y3 : Int32} {y4 : Int32} {I1 : tI} {J1 : tJ}, Y = some (y1, y3, y4, I1, J1) → pq sc B m (xt_211, 5, 3) 74 [(0, .ref 185), (1, .int y1), (3, .int y3), (4, .int y4)] [] I1 J1 P) → pq sc B b (xt_211, 5, 3) 49 [(0, .ref 185), (1, .int x1), (3, .int x3), (4, .int x4)] [] I J P
  | 0, _, b, _, hb, _, _, _, _, _, _, _, _, _ => by
    have e : b = 0 := by omega
    subst e
    exact pq_zero
  | _ + 1, _, 0, _, _, _, _, _, _, _, _, _, _, _ => pq_zero
  | k + 1, hk, b + 1, m, hb, hm, I, J, x1, x3, x4, Y, hq, hx0 => by
    unfold f211_185_l49 at hq
    have hle : b ≤ N := by omega
    refine pq_s1 hB 1 (pc' := 52) (L' := [(0, .ref 185), (1, .int x1), (3, .int x3), (4, .int x4)]) (st' := [.int x3, .int x4]) (I' := I) (J' := J) (by with_unfolding_all rfl) ?_
    refine pq_icn hB rfl (fun h11 => ?_) (fun h11 => ?_)
    · rw [h11, cond_true] at hq
      exact pq_le (by omega) (hx0 hq.symm)
    · rw [h11, cond_false] at hq
      refine pq_s hB 11 (pc' := 49) (L' := [(4, .int (x4 + 1)), (0, .ref 185), (1, .int x1), (3, .int x3)]) (st' := []) (I' := I) (J' := (tup J 190 ((((60 * x1) + x4)).toNatClampNeg) 0)) (by with_unfolding_all rfl) ?_
      refine pq_perm (L := [(0, .ref 185), (1, .int x1), (3, .int x3), (4, .int (x4 + 1))]) (leqn_of ⟨rfl, rfl, rfl, rfl, trivial⟩ ⟨rfl, rfl, rfl, rfl, trivial⟩ ⟨rfl, rfl, rfl, rfl, trivial⟩) ?_
      exact f211_185_l49_pq hB k (by omega) b m (by omega) (by omega) hq hx0
-- LPModel.tray
def f211_185 (N : Nat) (I : tI) (J : tJ) (a0 : Int32) (a1 : Int32) (a2 : Int32) : Option (Int32 × tI × tJ) :=
  (match f209 I J a0 with | (v1, I1, J1) => bif xcmp .eq v1 0 then (match f204_185 I1 J1 1 with | (v3, I3, J3) => some (v3, I3, J3)) else bif xcmp .lt a1 0 then (match f204_185 I1 J1 1 with | (v5, I5, J5) => some (v5, I5, J5)) else bif xcmp .gt a1 3 then (match f204_185 I1 J1 1 with | (v7, I7, J7) => some (v7, I7, J7)) else bif xcmp .lt a2 0 then (match f204_185 I1 J1 1 with | (v9, I9, J9) => some (v9, I9, J9)) else bif xcmp .le a2 60 then (match f211_185_l49 N N (tup (tup I1 188 ((a0).toNatClampNeg) a1) 189 ((a0).toNatClampNeg) a2) J1 a0 a2 0 with | none => none | some (y11_1, y11_3, y11_4, I11, J11) => (match f204_185 I11 J11 0 with | (v12, I12, J12) => some (v12, I12, J12))) else (match f204_185 I1 J1 1 with | (v13, I13, J13) => some (v13, I13, J13)))
set_option maxRecDepth 100000 in
theorem f211_185_pq {sc : List Int32} {B : xM} {N : Nat} {I : tI} {J : tJ} {a0 : Int32} {a1 : Int32} {a2 : Int32} (hB : kB pT B) : ∀ {X : Option (Int32 × tI × tJ)}, f211_185 N I J a0 a1 a2 = X → pq sc B N (xt_211, 5, 3) 0 [(0, .ref 185), (1, .int a0), (2, .int a1), (3, .int a2)] [] I J (fun v I1 J1 => ∃ a, v = some (.int a) ∧ X = some (a, I1, J1)) := by
  intro X hq
  unfold f211_185 at hq
  have hle : N ≤ N := Nat.le_refl N
  refine pq_s hB 1 (pc' := 1) (L' := [(0, .ref 185), (1, .int a0), (2, .int a1), (3, .int a2)]) (st' := [.int a0]) (I' := I) (J' := J) (by with_unfolding_all rfl) ?_
  generalize hc1 : f209 I J a0 = q1 at hq
  obtain ⟨v1, _, _⟩ := q1
  dsimp only at hq
  refine pq_1 rfl rfl rfl rfl (f209_pq hB hc1) ?_
  rintro _ I1 J1 ⟨rfl, rfl, rfl⟩
  refine pq_ifn hB rfl (fun h2 => ?_) (fun h2 => ?_)
  · rw [h2, cond_true] at hq
    refine pq_s hB 2 (pc' := 28) (L' := [(0, .ref 185), (1, .int a0), (2, .int a1), (3, .int a2)]) (st' := [.int 1, .ref 185]) (I' := I1) (J' := J1) (by with_unfolding_all rfl) ?_
    generalize hc3 : f204_185 I1 J1 1 = q3 at hq
    obtain ⟨v3, _, _⟩ := q3
    dsimp only at hq
    refine pq_1 rfl rfl rfl rfl (f204_185_pq hB hc3) ?_
    rintro _ I3 J3 ⟨rfl, rfl, rfl⟩
    subst hq
    exact pq_2i (x := v3) rfl ⟨_, rfl, rfl⟩
  · rw [h2, cond_false] at hq
    refine pq_s hB 1 (pc' := 8) (L' := [(0, .ref 185), (1, .int a0), (2, .int a1), (3, .int a2)]) (st' := [.int a1]) (I' := I1) (J' := J1) (by with_unfolding_all rfl) ?_
    refine pq_ifn hB rfl (fun h4 => ?_) (fun h4 => ?_)
    · rw [h4, cond_true] at hq
      refine pq_s hB 2 (pc' := 28) (L' := [(0, .ref 185), (1, .int a0), (2, .int a1), (3, .int a2)]) (st' := [.int 1, .ref 185]) (I' := I1) (J' := J1) (by with_unfolding_all rfl) ?_
      generalize hc5 : f204_185 I1 J1 1 = q5 at hq
      obtain ⟨v5, _, _⟩ := q5
      dsimp only at hq
      refine pq_1 rfl rfl rfl rfl (f204_185_pq hB hc5) ?_
      rintro _ I5 J5 ⟨rfl, rfl, rfl⟩
      subst hq
      exact pq_2i (x := v5) rfl ⟨_, rfl, rfl⟩
    · rw [h4, cond_false] at hq
      refine pq_s hB 2 (pc' := 13) (L' := [(0, .ref 185), (1, .int a0), (2, .int a1), (3, .int a2)]) (st' := [.int 3, .int a1]) (I' := I1) (J' := J1) (by with_unfolding_all rfl) ?_
      refine pq_icn hB rfl (fun h6 => ?_) (fun h6 => ?_)
      · rw [h6, cond_true] at hq
        refine pq_s hB 2 (pc' := 28) (L' := [(0, .ref 185), (1, .int a0), (2, .int a1), (3, .int a2)]) (st' := [.int 1, .ref 185]) (I' := I1) (J' := J1) (by with_unfolding_all rfl) ?_
        generalize hc7 : f204_185 I1 J1 1 = q7 at hq
        obtain ⟨v7, _, _⟩ := q7
        dsimp only at hq
        refine pq_1 rfl rfl rfl rfl (f204_185_pq hB hc7) ?_
        rintro _ I7 J7 ⟨rfl, rfl, rfl⟩
        subst hq
        exact pq_2i (x := v7) rfl ⟨_, rfl, rfl⟩
      · rw [h6, cond_false] at hq
        refine pq_s hB 1 (pc' := 17) (L' := [(0, .ref 185), (1, .int a0), (2, .int a1), (3, .int a2)]) (st' := [.int a2]) (I' := I1) (J' := J1) (by with_unfolding_all rfl) ?_
        refine pq_ifn hB rfl (fun h8 => ?_) (fun h8 => ?_)
        · rw [h8, cond_true] at hq
          refine pq_s hB 2 (pc' := 28) (L' := [(0, .ref 185), (1, .int a0), (2, .int a1), (3, .int a2)]) (st' := [.int 1, .ref 185]) (I' := I1) (J' := J1) (by with_unfolding_all rfl) ?_
          generalize hc9 : f204_185 I1 J1 1 = q9 at hq
          obtain ⟨v9, _, _⟩ := q9
          dsimp only at hq
          refine pq_1 rfl rfl rfl rfl (f204_185_pq hB hc9) ?_
          rintro _ I9 J9 ⟨rfl, rfl, rfl⟩
          subst hq
          exact pq_2i (x := v9) rfl ⟨_, rfl, rfl⟩
        · rw [h8, cond_false] at hq
          refine pq_s hB 2 (pc' := 23) (L' := [(0, .ref 185), (1, .int a0), (2, .int a1), (3, .int a2)]) (st' := [.int 60, .int a2]) (I' := I1) (J' := J1) (by with_unfolding_all rfl) ?_
          refine pq_icn hB rfl (fun h10 => ?_) (fun h10 => ?_)
          · rw [h10, cond_true] at hq
            refine pq_s hB 12 (pc' := 49) (L' := [(4, .int 0), (0, .ref 185), (1, .int a0), (2, .int a1), (3, .int a2)]) (st' := []) (I' := (tup (tup I1 188 ((a0).toNatClampNeg) a1) 189 ((a0).toNatClampNeg) a2)) (J' := J1) (by with_unfolding_all rfl) ?_
            refine pq_perm (L := [(0, .ref 185), (1, .int a0), (3, .int a2), (4, .int 0)]) (leqn_of ⟨rfl, rfl, rfl, rfl, trivial⟩ ⟨rfl, rfl, rfl, rfl, trivial⟩ ⟨rfl, rfl, rfl, rfl, rfl, trivial⟩) ?_
            refine f211_185_l49_pq hB N (Nat.le_refl N) N N hle (Nat.le_refl N) rfl ?_
            intro y11_1 y11_3 y11_4 I11 J11 hc11
            rw [hc11] at hq
            dsimp only at hq
            refine pq_s hB 2 (pc' := 76) (L' := [(0, .ref 185), (1, .int y11_1), (3, .int y11_3), (4, .int y11_4)]) (st' := [.int 0, .ref 185]) (I' := I11) (J' := J11) (by with_unfolding_all rfl) ?_
            generalize hc12 : f204_185 I11 J11 0 = q12 at hq
            obtain ⟨v12, _, _⟩ := q12
            dsimp only at hq
            refine pq_1 rfl rfl rfl rfl (f204_185_pq hB hc12) ?_
            rintro _ I12 J12 ⟨rfl, rfl, rfl⟩
            subst hq
            exact pq_2i (x := v12) rfl ⟨_, rfl, rfl⟩
          · rw [h10, cond_false] at hq
            refine pq_s hB 2 (pc' := 28) (L' := [(0, .ref 185), (1, .int a0), (2, .int a1), (3, .int a2)]) (st' := [.int 1, .ref 185]) (I' := I1) (J' := J1) (by with_unfolding_all rfl) ?_
            generalize hc13 : f204_185 I1 J1 1 = q13 at hq
            obtain ⟨v13, _, _⟩ := q13
            dsimp only at hq
            refine pq_1 rfl rfl rfl rfl (f204_185_pq hB hc13) ?_
            rintro _ I13 J13 ⟨rfl, rfl, rfl⟩
            subst hq
            exact pq_2i (x := v13) rfl ⟨_, rfl, rfl⟩
-- LPModel.wrongPlace
def f212_185 (I : tI) (J : tJ) (a0 : Int32) (a1 : Int32) : Int32 × tI × tJ :=
  (match f209 I J a0 with | (v1, I1, J1) => bif xcmp .ne v1 0 then (bif xcmp .ne (I1 189 (a0).toNatClampNeg) (-1) then (bif xcmp .lt a1 0 then (3, I1, J1) else bif xcmp .lt a1 (I1 189 (a0).toNatClampNeg) then (0, I1, J1) else (3, I1, J1)) else (2, I1, J1)) else (1, I1, J1))
set_option maxRecDepth 100000 in
theorem f212_185_pq {sc : List Int32} {B : xM} {n : Nat} {I : tI} {J : tJ} {a0 : Int32} {a1 : Int32} (hB : kB pT B) : ∀ {q : Int32 × tI × tJ}, f212_185 I J a0 a1 = q → pq sc B n (xt_212, 3, 1) 0 [(0, .ref 185), (1, .int a0), (2, .int a1)] [] I J (fun v I1 J1 => v = some (.int q.1) ∧ I1 = q.2.1 ∧ J1 = q.2.2) := by
  intro q hq
  unfold f212_185 at hq
  refine pq_s hB 1 (pc' := 1) (L' := [(0, .ref 185), (1, .int a0), (2, .int a1)]) (st' := [.int a0]) (I' := I) (J' := J) (by with_unfolding_all rfl) ?_
  generalize hc1 : f209 I J a0 = q1 at hq
  obtain ⟨v1, _, _⟩ := q1
  dsimp only at hq
  refine pq_1 rfl rfl rfl rfl (f209_pq hB hc1) ?_
  rintro _ I1 J1 ⟨rfl, rfl, rfl⟩
  refine pq_ifn hB rfl (fun h2 => ?_) (fun h2 => ?_)
  · rw [h2, cond_true] at hq
    refine pq_s hB 5 (pc' := 18) (L' := [(0, .ref 185), (1, .int a0), (2, .int a1)]) (st' := [.int (-1), .int (I1 189 (a0).toNatClampNeg)]) (I' := I1) (J' := J1) (by with_unfolding_all rfl) ?_
    refine pq_icn hB rfl (fun h3 => ?_) (fun h3 => ?_)
    · rw [h3, cond_true] at hq
      refine pq_s hB 1 (pc' := 26) (L' := [(0, .ref 185), (1, .int a0), (2, .int a1)]) (st' := [.int a1]) (I' := I1) (J' := J1) (by with_unfolding_all rfl) ?_
      refine pq_ifn hB rfl (fun h4 => ?_) (fun h4 => ?_)
      · rw [h4, cond_true] at hq
        refine pq_s hB 2 (pc' := 44) (L' := [(0, .ref 185), (1, .int a0), (2, .int a1)]) (st' := [.int 3]) (I' := I1) (J' := J1) (by with_unfolding_all rfl) ?_
        subst hq
        exact pq_2i (x := 3) rfl ⟨rfl, rfl, rfl⟩
      · rw [h4, cond_false] at hq
        refine pq_s hB 5 (pc' := 36) (L' := [(0, .ref 185), (1, .int a0), (2, .int a1)]) (st' := [.int (I1 189 (a0).toNatClampNeg), .int a1]) (I' := I1) (J' := J1) (by with_unfolding_all rfl) ?_
        refine pq_icn hB rfl (fun h5 => ?_) (fun h5 => ?_)
        · rw [h5, cond_true] at hq
          refine pq_s hB 1 (pc' := 44) (L' := [(0, .ref 185), (1, .int a0), (2, .int a1)]) (st' := [.int 0]) (I' := I1) (J' := J1) (by with_unfolding_all rfl) ?_
          subst hq
          exact pq_2i (x := 0) rfl ⟨rfl, rfl, rfl⟩
        · rw [h5, cond_false] at hq
          refine pq_s hB 2 (pc' := 44) (L' := [(0, .ref 185), (1, .int a0), (2, .int a1)]) (st' := [.int 3]) (I' := I1) (J' := J1) (by with_unfolding_all rfl) ?_
          subst hq
          exact pq_2i (x := 3) rfl ⟨rfl, rfl, rfl⟩
    · rw [h3, cond_false] at hq
      refine pq_s hB 2 (pc' := 44) (L' := [(0, .ref 185), (1, .int a0), (2, .int a1)]) (st' := [.int 2]) (I' := I1) (J' := J1) (by with_unfolding_all rfl) ?_
      subst hq
      exact pq_2i (x := 2) rfl ⟨rfl, rfl, rfl⟩
  · rw [h2, cond_false] at hq
    refine pq_s hB 2 (pc' := 44) (L' := [(0, .ref 185), (1, .int a0), (2, .int a1)]) (st' := [.int 1]) (I' := I1) (J' := J1) (by with_unfolding_all rfl) ?_
    subst hq
    exact pq_2i (x := 1) rfl ⟨rfl, rfl, rfl⟩
-- LPModel.cut
def f210 (I : tI) (J : tJ) (a0 : Int64) (a1 : Int32) : Int64 × tI × tJ :=
  bif xcmp .ne a1 0 then (bif xcmp .ne a1 1 then (bif xcmp .ne a1 2 then (a0, I, J) else (((a0).toInt32).toInt64, I, J)) else (((((a0).toInt32).toInt16.toInt32)).toInt64, I, J)) else ((((a0).toInt32).toInt8.toInt32).toInt64, I, J)
set_option maxRecDepth 100000 in
theorem f210_pq {sc : List Int32} {B : xM} {n : Nat} {I : tI} {J : tJ} {a0 : Int64} {a1 : Int32} (hB : kB pT B) : ∀ {q : Int64 × tI × tJ}, f210 I J a0 a1 = q → pq sc B n (xt_210, 3, 2) 0 [(0, .long a0), (2, .int a1)] [] I J (fun v I1 J1 => v = some (.long q.1) ∧ I1 = q.2.1 ∧ J1 = q.2.2) := by
  intro q hq
  unfold f210 at hq
  refine pq_s hB 1 (pc' := 1) (L' := [(0, .long a0), (2, .int a1)]) (st' := [.int a1]) (I' := I) (J' := J) (by with_unfolding_all rfl) ?_
  refine pq_ifn hB rfl (fun h1 => ?_) (fun h1 => ?_)
  · rw [h1, cond_true] at hq
    refine pq_s hB 2 (pc' := 13) (L' := [(0, .long a0), (2, .int a1)]) (st' := [.int 1, .int a1]) (I' := I) (J' := J) (by with_unfolding_all rfl) ?_
    refine pq_icn hB rfl (fun h2 => ?_) (fun h2 => ?_)
    · rw [h2, cond_true] at hq
      refine pq_s hB 2 (pc' := 25) (L' := [(0, .long a0), (2, .int a1)]) (st' := [.int 2, .int a1]) (I' := I) (J' := J) (by with_unfolding_all rfl) ?_
      refine pq_icn hB rfl (fun h3 => ?_) (fun h3 => ?_)
      · rw [h3, cond_true] at hq
        refine pq_s hB 1 (pc' := 35) (L' := [(0, .long a0), (2, .int a1)]) (st' := [.long a0]) (I' := I) (J' := J) (by with_unfolding_all rfl) ?_
        subst hq
        exact pq_2 (v := some (.long (a0))) rfl rfl (by with_unfolding_all rfl) ⟨rfl, rfl, rfl⟩
      · rw [h3, cond_false] at hq
        refine pq_s hB 4 (pc' := 35) (L' := [(0, .long a0), (2, .int a1)]) (st' := [.long ((a0).toInt32).toInt64]) (I' := I) (J' := J) (by with_unfolding_all rfl) ?_
        subst hq
        exact pq_2 (v := some (.long (((a0).toInt32).toInt64))) rfl rfl (by with_unfolding_all rfl) ⟨rfl, rfl, rfl⟩
    · rw [h2, cond_false] at hq
      refine pq_s hB 5 (pc' := 35) (L' := [(0, .long a0), (2, .int a1)]) (st' := [.long ((((a0).toInt32).toInt16.toInt32)).toInt64]) (I' := I) (J' := J) (by with_unfolding_all rfl) ?_
      subst hq
      exact pq_2 (v := some (.long (((((a0).toInt32).toInt16.toInt32)).toInt64))) rfl rfl (by with_unfolding_all rfl) ⟨rfl, rfl, rfl⟩
  · rw [h1, cond_false] at hq
    refine pq_s hB 5 (pc' := 35) (L' := [(0, .long a0), (2, .int a1)]) (st' := [.long (((a0).toInt32).toInt8.toInt32).toInt64]) (I' := I) (J' := J) (by with_unfolding_all rfl) ?_
    subst hq
    exact pq_2 (v := some (.long ((((a0).toInt32).toInt8.toInt32).toInt64))) rfl rfl (by with_unfolding_all rfl) ⟨rfl, rfl, rfl⟩
-- LPModel.write
def f213_185 (I : tI) (J : tJ) (a0 : Int32) (a1 : Int32) (a2 : Int64) : Int32 × tI × tJ :=
  (match f212_185 I J a0 a1 with | (v1, I1, J1) => bif xcmp .ne v1 0 then (match f204_185 I1 J1 v1 with | (v3, I3, J3) => (v3, I3, J3)) else (match f210 I1 J1 a2 (I1 188 (a0).toNatClampNeg) with | (v4, I4, J4) => (match f204_185 I4 (tup J4 190 ((((60 * a0) + a1)).toNatClampNeg) v4) v1 with | (v5, I5, J5) => (v5, I5, J5))))
set_option maxRecDepth 100000 in
theorem f213_185_pq {sc : List Int32} {B : xM} {n : Nat} {I : tI} {J : tJ} {a0 : Int32} {a1 : Int32} {a2 : Int64} (hB : kB pT B) : ∀ {q : Int32 × tI × tJ}, f213_185 I J a0 a1 a2 = q → pq sc B n (xt_213, 6, 3) 0 [(0, .ref 185), (1, .int a0), (2, .int a1), (3, .long a2)] [] I J (fun v I1 J1 => v = some (.int q.1) ∧ I1 = q.2.1 ∧ J1 = q.2.2) := by
  intro q hq
  unfold f213_185 at hq
  refine pq_s hB 3 (pc' := 3) (L' := [(0, .ref 185), (1, .int a0), (2, .int a1), (3, .long a2)]) (st' := [.int a1, .int a0, .ref 185]) (I' := I) (J' := J) (by with_unfolding_all rfl) ?_
  generalize hc1 : f212_185 I J a0 a1 = q1 at hq
  obtain ⟨v1, _, _⟩ := q1
  dsimp only at hq
  refine pq_1 rfl rfl rfl rfl (f212_185_pq hB hc1) ?_
  rintro _ I1 J1 ⟨rfl, rfl, rfl⟩
  refine pq_s hB 2 (pc' := 10) (L' := [(5, .int v1), (0, .ref 185), (1, .int a0), (2, .int a1), (3, .long a2)]) (st' := [.int v1]) (I' := I1) (J' := J1) (by with_unfolding_all rfl) ?_
  refine pq_ifn hB rfl (fun h2 => ?_) (fun h2 => ?_)
  · rw [h2, cond_true] at hq
    refine pq_s hB 2 (pc' := 37) (L' := [(5, .int v1), (0, .ref 185), (1, .int a0), (2, .int a1), (3, .long a2)]) (st' := [.int v1, .ref 185]) (I' := I1) (J' := J1) (by with_unfolding_all rfl) ?_
    generalize hc3 : f204_185 I1 J1 v1 = q3 at hq
    obtain ⟨v3, _, _⟩ := q3
    dsimp only at hq
    refine pq_1 rfl rfl rfl rfl (f204_185_pq hB hc3) ?_
    rintro _ I3 J3 ⟨rfl, rfl, rfl⟩
    subst hq
    exact pq_2i (x := v3) rfl ⟨rfl, rfl, rfl⟩
  · rw [h2, cond_false] at hq
    refine pq_s hB 12 (pc' := 30) (L' := [(5, .int v1), (0, .ref 185), (1, .int a0), (2, .int a1), (3, .long a2)]) (st' := [.int (I1 188 (a0).toNatClampNeg), .long a2, .int ((60 * a0) + a1), .ref 190]) (I' := I1) (J' := J1) (by with_unfolding_all rfl) ?_
    generalize hc4 : f210 I1 J1 a2 (I1 188 (a0).toNatClampNeg) = q4 at hq
    obtain ⟨v4, _, _⟩ := q4
    dsimp only at hq
    refine pq_1 rfl rfl rfl rfl (f210_pq hB hc4) ?_
    rintro _ I4 J4 ⟨rfl, rfl, rfl⟩
    refine pq_s hB 3 (pc' := 37) (L' := [(5, .int v1), (0, .ref 185), (1, .int a0), (2, .int a1), (3, .long a2)]) (st' := [.int v1, .ref 185]) (I' := I4) (J' := (tup J4 190 ((((60 * a0) + a1)).toNatClampNeg) v4)) (by with_unfolding_all rfl) ?_
    generalize hc5 : f204_185 I4 (tup J4 190 ((((60 * a0) + a1)).toNatClampNeg) v4) v1 = q5 at hq
    obtain ⟨v5, _, _⟩ := q5
    dsimp only at hq
    refine pq_1 rfl rfl rfl rfl (f204_185_pq hB hc5) ?_
    rintro _ I5 J5 ⟨rfl, rfl, rfl⟩
    subst hq
    exact pq_2i (x := v5) rfl ⟨rfl, rfl, rfl⟩
-- LPModel.read
def f214_185 (I : tI) (J : tJ) (a0 : Int32) (a1 : Int32) : Int64 × tI × tJ :=
  (match f212_185 I J a0 a1 with | (v1, I1, J1) => bif xcmp .le v1 0 then ((J1 190 (((60 * a0) + a1)).toNatClampNeg), (tup I1 185 2 v1), J1) else ((-1), (tup I1 185 2 v1), J1))
set_option maxRecDepth 100000 in
theorem f214_185_pq {sc : List Int32} {B : xM} {n : Nat} {I : tI} {J : tJ} {a0 : Int32} {a1 : Int32} (hB : kB pT B) : ∀ {q : Int64 × tI × tJ}, f214_185 I J a0 a1 = q → pq sc B n (xt_214, 3, 2) 0 [(0, .ref 185), (1, .int a0), (2, .int a1)] [] I J (fun v I1 J1 => v = some (.long q.1) ∧ I1 = q.2.1 ∧ J1 = q.2.2) := by
  intro q hq
  unfold f214_185 at hq
  refine pq_s hB 4 (pc' := 4) (L' := [(0, .ref 185), (1, .int a0), (2, .int a1)]) (st' := [.int a1, .int a0, .ref 185, .ref 185]) (I' := I) (J' := J) (by with_unfolding_all rfl) ?_
  generalize hc1 : f212_185 I J a0 a1 = q1 at hq
  obtain ⟨v1, _, _⟩ := q1
  dsimp only at hq
  refine pq_1 rfl rfl rfl rfl (f212_185_pq hB hc1) ?_
  rintro _ I1 J1 ⟨rfl, rfl, rfl⟩
  refine pq_s hB 3 (pc' := 14) (L' := [(0, .ref 185), (1, .int a0), (2, .int a1)]) (st' := [.int v1]) (I' := (tup I1 185 2 v1)) (J' := J1) (by with_unfolding_all rfl) ?_
  refine pq_ifn hB rfl (fun h2 => ?_) (fun h2 => ?_)
  · rw [h2, cond_true] at hq
    refine pq_s hB 8 (pc' := 34) (L' := [(0, .ref 185), (1, .int a0), (2, .int a1)]) (st' := [.long (J1 190 (((60 * a0) + a1)).toNatClampNeg)]) (I' := (tup I1 185 2 v1)) (J' := J1) (by with_unfolding_all rfl) ?_
    subst hq
    exact pq_2 (v := some (.long ((J1 190 (((60 * a0) + a1)).toNatClampNeg)))) rfl rfl (by with_unfolding_all rfl) ⟨rfl, rfl, rfl⟩
  · rw [h2, cond_false] at hq
    refine pq_s hB 2 (pc' := 34) (L' := [(0, .ref 185), (1, .int a0), (2, .int a1)]) (st' := [.long (-1)]) (I' := (tup I1 185 2 v1)) (J' := J1) (by with_unfolding_all rfl) ?_
    subst hq
    exact pq_2 (v := some (.long ((-1)))) rfl rfl (by with_unfolding_all rfl) ⟨rfl, rfl, rfl⟩
-- LPModel.pour, the loop at 118, to [180]
def f215_185_l118 (N : Nat) : Nat → tI → tJ → Int32 → Int32 → Int32 → Int32 → Int32 → Int32 → Option (Int32 × Int32 × Int32 × Int32 × Int32 × Int32 × tI × tJ)
  | 0, _, _, _, _, _, _, _, _ => none
  | k + 1, I, J, x1, x2, x3, x4, x5, x6 =>
    bif xcmp .ge x6 x5 then some (x1, x2, x3, x4, x5, x6, I, J) else bif xcmp .ge x2 x4 then f215_185_l118 N k I (tup J 190 (((((60 * x3) + x4) + x6)).toNatClampNeg) (J 190 ((((60 * x1) + x2) + x6)).toNatClampNeg)) x1 x2 x3 x4 x5 (x6 + 1) else f215_185_l118 N k I (tup J 190 (((((60 * x3) + x4) + ((x5 - 1) - x6))).toNatClampNeg) (J 190 ((((60 * x1) + x2) + ((x5 - 1) - x6))).toNatClampNeg)) x1 x2 x3 x4 x5 (x6 + 1)
set_option maxRecDepth 100000 in
theorem f215_185_l118_pq {sc : List Int32} {B : xM} {N : Nat} {P : Option Value → tI → tJ → Prop} (hB : kB pT B) : ∀ (k : Nat), k ≤ N → ∀ (b m : Nat), b ≤ k → b ≤ m → ∀ {I : tI} {J : tJ} {x1 : Int32} {x2 : Int32} {x3 : Int32} {x4 : Int32} {x5 : Int32} {x6 : Int32} {Y : Option (Int32 × Int32 × Int32 × Int32 × Int32 × Int32 × tI × tJ)}, f215_185_l118 N k I J x1 x2 x3 x4 x5 x6 = Y → (∀ {y1 : Int32} {y2 : Int32} {y3 : Int32} {y4 : Int32} {y5 : Int32} {y6 : Int32} {I1 : tI} {J1 : tJ}, Y = some (y1, y2, y3, y4, y5, y6, I1, J1) → pq sc B m (xt_215, 8, 3) 180 [(0, .ref 185), (1, .int y1), (2, .int y2), (3, .int y3), (4, .int y4), (5, .int y5), (6, .int y6)] [] I1 J1 P) → pq sc B b (xt_215, 8, 3) 118 [(0, .ref 185), (1, .int x1), (2, .int x2), (3, .int x3), (4, .int x4), (5, .int x5), (6, .int x6)] [] I J P
  | 0, _, b, _, hb, _, _, _, _, _, _, _, _, _, _, _, _ => by
    have e : b = 0 := by omega
    subst e
    exact pq_zero
  | _ + 1, _, 0, _, _, _, _, _, _, _, _, _, _, _, _, _, _ => pq_zero
  | k + 1, hk, b + 1, m, hb, hm, I, J, x1, x2, x3, x4, x5, x6, Y, hq, hx0 => by
    unfold f215_185_l118 at hq
    have hle : b ≤ N := by omega
    refine pq_s1 hB 1 (pc' := 122) (L' := [(0, .ref 185), (1, .int x1), (2, .int x2), (3, .int x3), (4, .int x4), (5, .int x5), (6, .int x6)]) (st' := [.int x5, .int x6]) (I' := I) (J' := J) (by with_unfolding_all rfl) ?_
    refine pq_icn hB rfl (fun h19 => ?_) (fun h19 => ?_)
    · rw [h19, cond_true] at hq
      exact pq_le (by omega) (hx0 hq.symm)
    · rw [h19, cond_false] at hq
      refine pq_s hB 2 (pc' := 128) (L' := [(0, .ref 185), (1, .int x1), (2, .int x2), (3, .int x3), (4, .int x4), (5, .int x5), (6, .int x6)]) (st' := [.int x4, .int x2]) (I' := I) (J' := J) (by with_unfolding_all rfl) ?_
      refine pq_icn hB rfl (fun h20 => ?_) (fun h20 => ?_)
      · rw [h20, cond_true] at hq
        refine pq_s hB 24 (pc' := 118) (L' := [(6, .int (x6 + 1)), (7, .int x6), (0, .ref 185), (1, .int x1), (2, .int x2), (3, .int x3), (4, .int x4), (5, .int x5)]) (st' := []) (I' := I) (J' := (tup J 190 (((((60 * x3) + x4) + x6)).toNatClampNeg) (J 190 ((((60 * x1) + x2) + x6)).toNatClampNeg))) (by with_unfolding_all rfl) ?_
        refine pq_perm (L := [(0, .ref 185), (1, .int x1), (2, .int x2), (3, .int x3), (4, .int x4), (5, .int x5), (6, .int (x6 + 1))]) (leqn_of ⟨rfl, rfl, rfl, rfl, rfl, rfl, rfl, trivial⟩ ⟨rfl, rfl, rfl, rfl, rfl, rfl, rfl, trivial⟩ ⟨rfl, rfl, rfl, rfl, rfl, rfl, rfl, rfl, trivial⟩) ?_
        exact f215_185_l118_pq hB k (by omega) b m (by omega) (by omega) hq hx0
      · rw [h20, cond_false] at hq
        refine pq_s hB 29 (pc' := 118) (L' := [(6, .int (x6 + 1)), (7, .int ((x5 - 1) - x6)), (0, .ref 185), (1, .int x1), (2, .int x2), (3, .int x3), (4, .int x4), (5, .int x5)]) (st' := []) (I' := I) (J' := (tup J 190 (((((60 * x3) + x4) + ((x5 - 1) - x6))).toNatClampNeg) (J 190 ((((60 * x1) + x2) + ((x5 - 1) - x6))).toNatClampNeg))) (by with_unfolding_all rfl) ?_
        refine pq_perm (L := [(0, .ref 185), (1, .int x1), (2, .int x2), (3, .int x3), (4, .int x4), (5, .int x5), (6, .int (x6 + 1))]) (leqn_of ⟨rfl, rfl, rfl, rfl, rfl, rfl, rfl, trivial⟩ ⟨rfl, rfl, rfl, rfl, rfl, rfl, rfl, trivial⟩ ⟨rfl, rfl, rfl, rfl, rfl, rfl, rfl, rfl, trivial⟩) ?_
        exact f215_185_l118_pq hB k (by omega) b m (by omega) (by omega) hq hx0
-- LPModel.pour
def f215_185 (N : Nat) (I : tI) (J : tJ) (a0 : Int32) (a1 : Int32) (a2 : Int32) (a3 : Int32) (a4 : Int32) : Option (Int32 × tI × tJ) :=
  (match f209 I J a0 with | (v1, I1, J1) => bif xcmp .eq v1 0 then (match f204_185 I1 J1 1 with | (v3, I3, J3) => some (v3, I3, J3)) else (match f209 I1 J1 a2 with | (v4, I4, J4) => bif xcmp .eq v4 0 then (match f204_185 I4 J4 1 with | (v6, I6, J6) => some (v6, I6, J6)) else bif xcmp .lt a1 0 then (match f204_185 I4 J4 1 with | (v8, I8, J8) => some (v8, I8, J8)) else bif xcmp .lt a3 0 then (match f204_185 I4 J4 1 with | (v10, I10, J10) => some (v10, I10, J10)) else bif xcmp .ge a4 0 then (bif xcmp .eq (I4 189 (a0).toNatClampNeg) (-1) then (match f204_185 I4 J4 2 with | (v13, I13, J13) => some (v13, I13, J13)) else bif xcmp .ne (I4 189 (a2).toNatClampNeg) (-1) then (bif xcmp .eq (I4 188 (a0).toNatClampNeg) (I4 188 (a2).toNatClampNeg) then (bif xcmp .gt a4 ((I4 189 (a0).toNatClampNeg) - a1) then (match f204_185 I4 J4 3 with | (v17, I17, J17) => some (v17, I17, J17)) else bif xcmp .le a4 ((I4 189 (a2).toNatClampNeg) - a3) then (match f215_185_l118 N N I4 J4 a0 a1 a2 a3 a4 0 with | none => none | some (y19_1, y19_2, y19_3, y19_4, y19_5, y19_6, I19, J19) => (match f204_185 I19 J19 0 with | (v20, I20, J20) => some (v20, I20, J20))) else (match f204_185 I4 J4 3 with | (v21, I21, J21) => some (v21, I21, J21))) else (match f204_185 I4 J4 8 with | (v22, I22, J22) => some (v22, I22, J22))) else (match f204_185 I4 J4 2 with | (v23, I23, J23) => some (v23, I23, J23))) else (match f204_185 I4 J4 1 with | (v24, I24, J24) => some (v24, I24, J24))))
set_option maxRecDepth 100000 in
theorem f215_185_pq {sc : List Int32} {B : xM} {N : Nat} {I : tI} {J : tJ} {a0 : Int32} {a1 : Int32} {a2 : Int32} {a3 : Int32} {a4 : Int32} (hB : kB pT B) : ∀ {X : Option (Int32 × tI × tJ)}, f215_185 N I J a0 a1 a2 a3 a4 = X → pq sc B N (xt_215, 8, 3) 0 [(0, .ref 185), (1, .int a0), (2, .int a1), (3, .int a2), (4, .int a3), (5, .int a4)] [] I J (fun v I1 J1 => ∃ a, v = some (.int a) ∧ X = some (a, I1, J1)) := by
  intro X hq
  unfold f215_185 at hq
  have hle : N ≤ N := Nat.le_refl N
  refine pq_s hB 1 (pc' := 1) (L' := [(0, .ref 185), (1, .int a0), (2, .int a1), (3, .int a2), (4, .int a3), (5, .int a4)]) (st' := [.int a0]) (I' := I) (J' := J) (by with_unfolding_all rfl) ?_
  generalize hc1 : f209 I J a0 = q1 at hq
  obtain ⟨v1, _, _⟩ := q1
  dsimp only at hq
  refine pq_1 rfl rfl rfl rfl (f209_pq hB hc1) ?_
  rintro _ I1 J1 ⟨rfl, rfl, rfl⟩
  refine pq_ifn hB rfl (fun h2 => ?_) (fun h2 => ?_)
  · rw [h2, cond_true] at hq
    refine pq_s hB 2 (pc' := 30) (L' := [(0, .ref 185), (1, .int a0), (2, .int a1), (3, .int a2), (4, .int a3), (5, .int a4)]) (st' := [.int 1, .ref 185]) (I' := I1) (J' := J1) (by with_unfolding_all rfl) ?_
    generalize hc3 : f204_185 I1 J1 1 = q3 at hq
    obtain ⟨v3, _, _⟩ := q3
    dsimp only at hq
    refine pq_1 rfl rfl rfl rfl (f204_185_pq hB hc3) ?_
    rintro _ I3 J3 ⟨rfl, rfl, rfl⟩
    subst hq
    exact pq_2i (x := v3) rfl ⟨_, rfl, rfl⟩
  · rw [h2, cond_false] at hq
    refine pq_s hB 1 (pc' := 8) (L' := [(0, .ref 185), (1, .int a0), (2, .int a1), (3, .int a2), (4, .int a3), (5, .int a4)]) (st' := [.int a2]) (I' := I1) (J' := J1) (by with_unfolding_all rfl) ?_
    generalize hc4 : f209 I1 J1 a2 = q4 at hq
    obtain ⟨v4, _, _⟩ := q4
    dsimp only at hq
    refine pq_1 rfl rfl rfl rfl (f209_pq hB hc4) ?_
    rintro _ I4 J4 ⟨rfl, rfl, rfl⟩
    refine pq_ifn hB rfl (fun h5 => ?_) (fun h5 => ?_)
    · rw [h5, cond_true] at hq
      refine pq_s hB 2 (pc' := 30) (L' := [(0, .ref 185), (1, .int a0), (2, .int a1), (3, .int a2), (4, .int a3), (5, .int a4)]) (st' := [.int 1, .ref 185]) (I' := I4) (J' := J4) (by with_unfolding_all rfl) ?_
      generalize hc6 : f204_185 I4 J4 1 = q6 at hq
      obtain ⟨v6, _, _⟩ := q6
      dsimp only at hq
      refine pq_1 rfl rfl rfl rfl (f204_185_pq hB hc6) ?_
      rintro _ I6 J6 ⟨rfl, rfl, rfl⟩
      subst hq
      exact pq_2i (x := v6) rfl ⟨_, rfl, rfl⟩
    · rw [h5, cond_false] at hq
      refine pq_s hB 1 (pc' := 15) (L' := [(0, .ref 185), (1, .int a0), (2, .int a1), (3, .int a2), (4, .int a3), (5, .int a4)]) (st' := [.int a1]) (I' := I4) (J' := J4) (by with_unfolding_all rfl) ?_
      refine pq_ifn hB rfl (fun h7 => ?_) (fun h7 => ?_)
      · rw [h7, cond_true] at hq
        refine pq_s hB 2 (pc' := 30) (L' := [(0, .ref 185), (1, .int a0), (2, .int a1), (3, .int a2), (4, .int a3), (5, .int a4)]) (st' := [.int 1, .ref 185]) (I' := I4) (J' := J4) (by with_unfolding_all rfl) ?_
        generalize hc8 : f204_185 I4 J4 1 = q8 at hq
        obtain ⟨v8, _, _⟩ := q8
        dsimp only at hq
        refine pq_1 rfl rfl rfl rfl (f204_185_pq hB hc8) ?_
        rintro _ I8 J8 ⟨rfl, rfl, rfl⟩
        subst hq
        exact pq_2i (x := v8) rfl ⟨_, rfl, rfl⟩
      · rw [h7, cond_false] at hq
        refine pq_s hB 1 (pc' := 20) (L' := [(0, .ref 185), (1, .int a0), (2, .int a1), (3, .int a2), (4, .int a3), (5, .int a4)]) (st' := [.int a3]) (I' := I4) (J' := J4) (by with_unfolding_all rfl) ?_
        refine pq_ifn hB rfl (fun h9 => ?_) (fun h9 => ?_)
        · rw [h9, cond_true] at hq
          refine pq_s hB 2 (pc' := 30) (L' := [(0, .ref 185), (1, .int a0), (2, .int a1), (3, .int a2), (4, .int a3), (5, .int a4)]) (st' := [.int 1, .ref 185]) (I' := I4) (J' := J4) (by with_unfolding_all rfl) ?_
          generalize hc10 : f204_185 I4 J4 1 = q10 at hq
          obtain ⟨v10, _, _⟩ := q10
          dsimp only at hq
          refine pq_1 rfl rfl rfl rfl (f204_185_pq hB hc10) ?_
          rintro _ I10 J10 ⟨rfl, rfl, rfl⟩
          subst hq
          exact pq_2i (x := v10) rfl ⟨_, rfl, rfl⟩
        · rw [h9, cond_false] at hq
          refine pq_s hB 1 (pc' := 25) (L' := [(0, .ref 185), (1, .int a0), (2, .int a1), (3, .int a2), (4, .int a3), (5, .int a4)]) (st' := [.int a4]) (I' := I4) (J' := J4) (by with_unfolding_all rfl) ?_
          refine pq_ifn hB rfl (fun h11 => ?_) (fun h11 => ?_)
          · rw [h11, cond_true] at hq
            refine pq_s hB 5 (pc' := 41) (L' := [(0, .ref 185), (1, .int a0), (2, .int a1), (3, .int a2), (4, .int a3), (5, .int a4)]) (st' := [.int (-1), .int (I4 189 (a0).toNatClampNeg)]) (I' := I4) (J' := J4) (by with_unfolding_all rfl) ?_
            refine pq_icn hB rfl (fun h12 => ?_) (fun h12 => ?_)
            · rw [h12, cond_true] at hq
              refine pq_s hB 2 (pc' := 56) (L' := [(0, .ref 185), (1, .int a0), (2, .int a1), (3, .int a2), (4, .int a3), (5, .int a4)]) (st' := [.int 2, .ref 185]) (I' := I4) (J' := J4) (by with_unfolding_all rfl) ?_
              generalize hc13 : f204_185 I4 J4 2 = q13 at hq
              obtain ⟨v13, _, _⟩ := q13
              dsimp only at hq
              refine pq_1 rfl rfl rfl rfl (f204_185_pq hB hc13) ?_
              rintro _ I13 J13 ⟨rfl, rfl, rfl⟩
              subst hq
              exact pq_2i (x := v13) rfl ⟨_, rfl, rfl⟩
            · rw [h12, cond_false] at hq
              refine pq_s hB 5 (pc' := 51) (L' := [(0, .ref 185), (1, .int a0), (2, .int a1), (3, .int a2), (4, .int a3), (5, .int a4)]) (st' := [.int (-1), .int (I4 189 (a2).toNatClampNeg)]) (I' := I4) (J' := J4) (by with_unfolding_all rfl) ?_
              refine pq_icn hB rfl (fun h14 => ?_) (fun h14 => ?_)
              · rw [h14, cond_true] at hq
                refine pq_s hB 8 (pc' := 72) (L' := [(0, .ref 185), (1, .int a0), (2, .int a1), (3, .int a2), (4, .int a3), (5, .int a4)]) (st' := [.int (I4 188 (a2).toNatClampNeg), .int (I4 188 (a0).toNatClampNeg)]) (I' := I4) (J' := J4) (by with_unfolding_all rfl) ?_
                refine pq_icn hB rfl (fun h15 => ?_) (fun h15 => ?_)
                · rw [h15, cond_true] at hq
                  refine pq_s hB 7 (pc' := 92) (L' := [(0, .ref 185), (1, .int a0), (2, .int a1), (3, .int a2), (4, .int a3), (5, .int a4)]) (st' := [.int ((I4 189 (a0).toNatClampNeg) - a1), .int a4]) (I' := I4) (J' := J4) (by with_unfolding_all rfl) ?_
                  refine pq_icn hB rfl (fun h16 => ?_) (fun h16 => ?_)
                  · rw [h16, cond_true] at hq
                    refine pq_s hB 2 (pc' := 111) (L' := [(0, .ref 185), (1, .int a0), (2, .int a1), (3, .int a2), (4, .int a3), (5, .int a4)]) (st' := [.int 3, .ref 185]) (I' := I4) (J' := J4) (by with_unfolding_all rfl) ?_
                    generalize hc17 : f204_185 I4 J4 3 = q17 at hq
                    obtain ⟨v17, _, _⟩ := q17
                    dsimp only at hq
                    refine pq_1 rfl rfl rfl rfl (f204_185_pq hB hc17) ?_
                    rintro _ I17 J17 ⟨rfl, rfl, rfl⟩
                    subst hq
                    exact pq_2i (x := v17) rfl ⟨_, rfl, rfl⟩
                  · rw [h16, cond_false] at hq
                    refine pq_s hB 7 (pc' := 106) (L' := [(0, .ref 185), (1, .int a0), (2, .int a1), (3, .int a2), (4, .int a3), (5, .int a4)]) (st' := [.int ((I4 189 (a2).toNatClampNeg) - a3), .int a4]) (I' := I4) (J' := J4) (by with_unfolding_all rfl) ?_
                    refine pq_icn hB rfl (fun h18 => ?_) (fun h18 => ?_)
                    · rw [h18, cond_true] at hq
                      refine pq_s hB 2 (pc' := 118) (L' := [(6, .int 0), (0, .ref 185), (1, .int a0), (2, .int a1), (3, .int a2), (4, .int a3), (5, .int a4)]) (st' := []) (I' := I4) (J' := J4) (by with_unfolding_all rfl) ?_
                      refine pq_perm (L := [(0, .ref 185), (1, .int a0), (2, .int a1), (3, .int a2), (4, .int a3), (5, .int a4), (6, .int 0)]) (leqn_of ⟨rfl, rfl, rfl, rfl, rfl, rfl, rfl, trivial⟩ ⟨rfl, rfl, rfl, rfl, rfl, rfl, rfl, trivial⟩ ⟨rfl, rfl, rfl, rfl, rfl, rfl, rfl, trivial⟩) ?_
                      refine f215_185_l118_pq hB N (Nat.le_refl N) N N hle (Nat.le_refl N) rfl ?_
                      intro y19_1 y19_2 y19_3 y19_4 y19_5 y19_6 I19 J19 hc19
                      rw [hc19] at hq
                      dsimp only at hq
                      refine pq_s hB 2 (pc' := 182) (L' := [(0, .ref 185), (1, .int y19_1), (2, .int y19_2), (3, .int y19_3), (4, .int y19_4), (5, .int y19_5), (6, .int y19_6)]) (st' := [.int 0, .ref 185]) (I' := I19) (J' := J19) (by with_unfolding_all rfl) ?_
                      generalize hc20 : f204_185 I19 J19 0 = q20 at hq
                      obtain ⟨v20, _, _⟩ := q20
                      dsimp only at hq
                      refine pq_1 rfl rfl rfl rfl (f204_185_pq hB hc20) ?_
                      rintro _ I20 J20 ⟨rfl, rfl, rfl⟩
                      subst hq
                      exact pq_2i (x := v20) rfl ⟨_, rfl, rfl⟩
                    · rw [h18, cond_false] at hq
                      refine pq_s hB 2 (pc' := 111) (L' := [(0, .ref 185), (1, .int a0), (2, .int a1), (3, .int a2), (4, .int a3), (5, .int a4)]) (st' := [.int 3, .ref 185]) (I' := I4) (J' := J4) (by with_unfolding_all rfl) ?_
                      generalize hc21 : f204_185 I4 J4 3 = q21 at hq
                      obtain ⟨v21, _, _⟩ := q21
                      dsimp only at hq
                      refine pq_1 rfl rfl rfl rfl (f204_185_pq hB hc21) ?_
                      rintro _ I21 J21 ⟨rfl, rfl, rfl⟩
                      subst hq
                      exact pq_2i (x := v21) rfl ⟨_, rfl, rfl⟩
                · rw [h15, cond_false] at hq
                  refine pq_s hB 2 (pc' := 78) (L' := [(0, .ref 185), (1, .int a0), (2, .int a1), (3, .int a2), (4, .int a3), (5, .int a4)]) (st' := [.int 8, .ref 185]) (I' := I4) (J' := J4) (by with_unfolding_all rfl) ?_
                  generalize hc22 : f204_185 I4 J4 8 = q22 at hq
                  obtain ⟨v22, _, _⟩ := q22
                  dsimp only at hq
                  refine pq_1 rfl rfl rfl rfl (f204_185_pq hB hc22) ?_
                  rintro _ I22 J22 ⟨rfl, rfl, rfl⟩
                  subst hq
                  exact pq_2i (x := v22) rfl ⟨_, rfl, rfl⟩
              · rw [h14, cond_false] at hq
                refine pq_s hB 2 (pc' := 56) (L' := [(0, .ref 185), (1, .int a0), (2, .int a1), (3, .int a2), (4, .int a3), (5, .int a4)]) (st' := [.int 2, .ref 185]) (I' := I4) (J' := J4) (by with_unfolding_all rfl) ?_
                generalize hc23 : f204_185 I4 J4 2 = q23 at hq
                obtain ⟨v23, _, _⟩ := q23
                dsimp only at hq
                refine pq_1 rfl rfl rfl rfl (f204_185_pq hB hc23) ?_
                rintro _ I23 J23 ⟨rfl, rfl, rfl⟩
                subst hq
                exact pq_2i (x := v23) rfl ⟨_, rfl, rfl⟩
          · rw [h11, cond_false] at hq
            refine pq_s hB 2 (pc' := 30) (L' := [(0, .ref 185), (1, .int a0), (2, .int a1), (3, .int a2), (4, .int a3), (5, .int a4)]) (st' := [.int 1, .ref 185]) (I' := I4) (J' := J4) (by with_unfolding_all rfl) ?_
            generalize hc24 : f204_185 I4 J4 1 = q24 at hq
            obtain ⟨v24, _, _⟩ := q24
            dsimp only at hq
            refine pq_1 rfl rfl rfl rfl (f204_185_pq hB hc24) ?_
            rintro _ I24 J24 ⟨rfl, rfl, rfl⟩
            subst hq
            exact pq_2i (x := v24) rfl ⟨_, rfl, rfl⟩

/-! TO TAKE APART WHAT THE FUNCTIONS ABOVE PUT TOGETHER (here, where the matches are the same) -/
set_option maxRecDepth 100000 in
theorem obI {β : Type} {X : Option (Int32 × tI × tJ)} {k : Int32 → tI → tJ → Option β} {Y : β} (h : (match X with | none => none | some (v, I, J) => k v I J) = some Y) : ∃ v I J, X = some (v, I, J) ∧ k v I J = some Y := by
  cases X with
  | none => cases h
  | some q => exact ⟨q.1, q.2.1, q.2.2, rfl, h⟩
set_option maxRecDepth 100000 in
theorem obU {β : Type} {X : Option (Unit × tI × tJ)} {k : Unit → tI → tJ → Option β} {Y : β} (h : (match X with | none => none | some (v, I, J) => k v I J) = some Y) : ∃ v I J, X = some (v, I, J) ∧ k v I J = some Y := by
  cases X with
  | none => cases h
  | some q => exact ⟨q.1, q.2.1, q.2.2, rfl, h⟩
set_option maxRecDepth 100000 in
theorem obL {β : Type} {X : Option (Int64 × tI × tJ)} {k : Int64 → tI → tJ → Option β} {Y : β} (h : (match X with | none => none | some (v, I, J) => k v I J) = some Y) : ∃ v I J, X = some (v, I, J) ∧ k v I J = some Y := by
  cases X with
  | none => cases h
  | some q => exact ⟨q.1, q.2.1, q.2.2, rfl, h⟩
set_option maxRecDepth 100000 in
theorem pbI {β : Type} {q : Int32 × tI × tJ} {k : Int32 → tI → tJ → β} {Y : β} (h : (match q with | (v, I, J) => k v I J) = Y) : ∃ v I J, q = (v, I, J) ∧ k v I J = Y := ⟨q.1, q.2.1, q.2.2, rfl, h⟩
set_option maxRecDepth 100000 in
theorem pbL {β : Type} {q : Int64 × tI × tJ} {k : Int64 → tI → tJ → β} {Y : β} (h : (match q with | (v, I, J) => k v I J) = Y) : ∃ v I J, q = (v, I, J) ∧ k v I J = Y := ⟨q.1, q.2.1, q.2.2, rfl, h⟩
set_option maxRecDepth 100000 in
theorem pbU {β : Type} {q : Unit × tI × tJ} {k : Unit → tI → tJ → β} {Y : β} (h : (match q with | (v, I, J) => k v I J) = Y) : ∃ v I J, q = (v, I, J) ∧ k v I J = Y := ⟨q.1, q.2.1, q.2.2, rfl, h⟩
