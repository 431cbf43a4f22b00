/-! PURE FUNCTIONS OF METHODS -/
-- LP.isBuyer
def f131_0 (I : tI) (J : tJ) (a0 : Int32) : Int32 × tI × tJ :=
  (match f127 I J a0 0 ((I 10 6) - 1) with | (v1, I1, J1) => (v1, I1, J1))
set_option maxRecDepth 100000 in
theorem f131_0_pq {sc : List Int32} {B : xM} {n : Nat} {I : tI} {J : tJ} {a0 : Int32} (hB : kB pT B) : ∀ {q : Int32 × tI × tJ}, f131_0 I J a0 = q → pq sc B n (xt_131, 2, 3) 0 [(0, .ref 0), (1, .int a0)] [] I J (fun v I1 J1 => v = some (.int q.1) ∧ I1 = q.2.1 ∧ J1 = q.2.2) := by
  intro q hq
  unfold f131_0 at hq
  refine pq_s hB 7 (pc' := 11) (L' := [(0, .ref 0), (1, .int a0)]) (st' := [.int ((I 10 6) - 1), .int 0, .int a0]) (I' := I) (J' := J) (by with_unfolding_all rfl) ?_
  generalize hc1 : f127 I J a0 0 ((I 10 6) - 1) = q1 at hq
  obtain ⟨v1, _, _⟩ := q1
  dsimp only at hq
  refine pq_1 rfl rfl rfl rfl (f127_pq hB hc1) ?_
  rintro _ I1 J1 ⟨rfl, rfl, rfl⟩
  subst hq
  exact pq_2i (x := v1) rfl ⟨rfl, rfl, rfl⟩
-- LP$World.canMake
def f108_10 (I : tI) (J : tJ) (a0 : Int32) : Int32 × tI × tJ :=
  bif xcmp .gt ((I 12 1) + a0) 999 then (0, I, J) else (1, I, J)
set_option maxRecDepth 100000 in
theorem f108_10_pq {sc : List Int32} {B : xM} {n : Nat} {I : tI} {J : tJ} {a0 : Int32} (hB : kB pT B) : ∀ {q : Int32 × tI × tJ}, f108_10 I J a0 = q → pq sc B n (xt_108, 2, 3) 0 [(0, .ref 10), (1, .int a0)] [] I J (fun v I1 J1 => v = some (.int q.1) ∧ I1 = q.2.1 ∧ J1 = q.2.2) := by
  intro q hq
  unfold f108_10 at hq
  refine pq_s hB 6 (pc' := 12) (L' := [(0, .ref 10), (1, .int a0)]) (st' := [.int 999, .int ((I 12 1) + a0)]) (I' := I) (J' := J) (by with_unfolding_all rfl) ?_
  refine pq_icn hB rfl (fun h1 => ?_) (fun h1 => ?_)
  · rw [h1, cond_true] at hq
    refine pq_s hB 1 (pc' := 20) (L' := [(0, .ref 10), (1, .int a0)]) (st' := [.int 0]) (I' := I) (J' := J) (by with_unfolding_all rfl) ?_
    subst hq
    exact pq_2i (x := 0) rfl ⟨rfl, rfl, rfl⟩
  · rw [h1, cond_false] at hq
    refine pq_s hB 2 (pc' := 20) (L' := [(0, .ref 10), (1, .int a0)]) (st' := [.int 1]) (I' := I) (J' := J) (by with_unfolding_all rfl) ?_
    subst hq
    exact pq_2i (x := 1) rfl ⟨rfl, rfl, rfl⟩
-- LP$World.costAhead
def f107_10 (I : tI) (J : tJ) (a0 : Int32) : Int32 × tI × tJ :=
  (match f106_10 I J ((I 12 1) + 1) with | (v1, I1, J1) => (((a0 * v1) + (((a0 * (a0 - 1)) / 2) * (I1 10 5))), I1, J1))
set_option maxRecDepth 100000 in
theorem f107_10_pq {sc : List Int32} {B : xM} {n : Nat} {I : tI} {J : tJ} {a0 : Int32} (hB : kB pT B) : ∀ {q : Int32 × tI × tJ}, f107_10 I J a0 = q → pq sc B n (xt_107, 2, 1) 0 [(0, .ref 10), (1, .int a0)] [] I J (fun v I1 J1 => v = some (.int q.1) ∧ I1 = q.2.1 ∧ J1 = q.2.2) := by
  intro q hq
  unfold f107_10 at hq
  refine pq_s hB 7 (pc' := 11) (L' := [(0, .ref 10), (1, .int a0)]) (st' := [.int ((I 12 1) + 1), .ref 10, .int a0]) (I' := I) (J' := J) (by with_unfolding_all rfl) ?_
  generalize hc1 : f106_10 I J ((I 12 1) + 1) = q1 at hq
  obtain ⟨v1, _, _⟩ := q1
  dsimp only at hq
  refine pq_1 rfl rfl rfl rfl (f106_10_pq hB hc1) ?_
  rintro _ I1 J1 ⟨rfl, rfl, rfl⟩
  refine pq_s hB 12 (pc' := 28) (L' := [(0, .ref 10), (1, .int a0)]) (st' := [.int ((a0 * v1) + (((a0 * (a0 - 1)) / 2) * (I1 10 5)))]) (I' := I1) (J' := J1) (by with_unfolding_all rfl) ?_
  subst hq
  exact pq_2i (x := ((a0 * v1) + (((a0 * (a0 - 1)) / 2) * (I1 10 5)))) rfl ⟨rfl, rfl, rfl⟩
-- LP$World.canBuy
def f109_10 (I : tI) (J : tJ) (a0 : Int32) (a1 : Int32) : Int32 × tI × tJ :=
  (match f108_10 I J a1 with | (v1, I1, J1) => bif xcmp .eq v1 0 then (0, I1, J1) else (match f107_10 I1 J1 a1 with | (v3, I3, J3) => bif xcmp .gt v3 (I3 32 (a0).toNatClampNeg) then (0, I3, J3) else (1, I3, J3)))
set_option maxRecDepth 100000 in
theorem f109_10_pq {sc : List Int32} {B : xM} {n : Nat} {I : tI} {J : tJ} {a0 : Int32} {a1 : Int32} (hB : kB pT B) : ∀ {q : Int32 × tI × tJ}, f109_10 I J a0 a1 = q → pq sc B n (xt_109, 3, 3) 0 [(0, .ref 10), (1, .int a0), (2, .int a1)] [] I J (fun v I1 J1 => v = some (.int q.1) ∧ I1 = q.2.1 ∧ J1 = q.2.2) := by
  intro q hq
  unfold f109_10 at hq
  refine pq_s hB 2 (pc' := 2) (L' := [(0, .ref 10), (1, .int a0), (2, .int a1)]) (st' := [.int a1, .ref 10]) (I' := I) (J' := J) (by with_unfolding_all rfl) ?_
  generalize hc1 : f108_10 I J a1 = q1 at hq
  obtain ⟨v1, _, _⟩ := q1
  dsimp only at hq
  refine pq_1 rfl rfl rfl rfl (f108_10_pq hB hc1) ?_
  rintro _ I1 J1 ⟨rfl, rfl, rfl⟩
  refine pq_ifn hB rfl (fun h2 => ?_) (fun h2 => ?_)
  · rw [h2, cond_true] at hq
    refine pq_s hB 1 (pc' := 27) (L' := [(0, .ref 10), (1, .int a0), (2, .int a1)]) (st' := [.int 0]) (I' := I1) (J' := J1) (by with_unfolding_all rfl) ?_
    subst hq
    exact pq_2i (x := 0) rfl ⟨rfl, rfl, rfl⟩
  · rw [h2, cond_false] at hq
    refine pq_s hB 2 (pc' := 10) (L' := [(0, .ref 10), (1, .int a0), (2, .int a1)]) (st' := [.int a1, .ref 10]) (I' := I1) (J' := J1) (by with_unfolding_all rfl) ?_
    generalize hc3 : f107_10 I1 J1 a1 = q3 at hq
    obtain ⟨v3, _, _⟩ := q3
    dsimp only at hq
    refine pq_1 rfl rfl rfl rfl (f107_10_pq hB hc3) ?_
    rintro _ I3 J3 ⟨rfl, rfl, rfl⟩
    refine pq_s hB 4 (pc' := 19) (L' := [(0, .ref 10), (1, .int a0), (2, .int a1)]) (st' := [.int (I3 32 (a0).toNatClampNeg), .int v3]) (I' := I3) (J' := J3) (by with_unfolding_all rfl) ?_
    refine pq_icn hB rfl (fun h4 => ?_) (fun h4 => ?_)
    · rw [h4, cond_true] at hq
      refine pq_s hB 1 (pc' := 27) (L' := [(0, .ref 10), (1, .int a0), (2, .int a1)]) (st' := [.int 0]) (I' := I3) (J' := J3) (by with_unfolding_all rfl) ?_
      subst hq
      exact pq_2i (x := 0) rfl ⟨rfl, rfl, rfl⟩
    · rw [h4, cond_false] at hq
      refine pq_s hB 2 (pc' := 27) (L' := [(0, .ref 10), (1, .int a0), (2, .int a1)]) (st' := [.int 1]) (I' := I3) (J' := J3) (by with_unfolding_all rfl) ?_
      subst hq
      exact pq_2i (x := 1) rfl ⟨rfl, rfl, rfl⟩
-- LP$Folk.mustLeave
def f21_12 (I : tI) (J : tJ) (a0 : Int32) : Int32 × tI × tJ :=
  bif xcmp .eq (I 16 (a0).toNatClampNeg) (-1) then (0, I, J) else bif xcmp .gt (I 16 (a0).toNatClampNeg) ((I 12 1) + 1) then (0, I, J) else (1, I, J)
set_option maxRecDepth 100000 in
theorem f21_12_pq {sc : List Int32} {B : xM} {n : Nat} {I : tI} {J : tJ} {a0 : Int32} (hB : kB pT B) : ∀ {q : Int32 × tI × tJ}, f21_12 I J a0 = q → pq sc B n (xt_21, 2, 3) 0 [(0, .ref 12), (1, .int a0)] [] I J (fun v I1 J1 => v = some (.int q.1) ∧ I1 = q.2.1 ∧ J1 = q.2.2) := by
  intro q hq
  unfold f21_12 at hq
  refine pq_s hB 5 (pc' := 7) (L' := [(0, .ref 12), (1, .int a0)]) (st' := [.int (-1), .int (I 16 (a0).toNatClampNeg)]) (I' := I) (J' := J) (by with_unfolding_all rfl) ?_
  refine pq_icn hB rfl (fun h1 => ?_) (fun h1 => ?_)
  · rw [h1, cond_true] at hq
    refine pq_s hB 1 (pc' := 30) (L' := [(0, .ref 12), (1, .int a0)]) (st' := [.int 0]) (I' := I) (J' := J) (by with_unfolding_all rfl) ?_
    subst hq
    exact pq_2i (x := 0) rfl ⟨rfl, rfl, rfl⟩
  · rw [h1, cond_false] at hq
    refine pq_s hB 8 (pc' := 22) (L' := [(0, .ref 12), (1, .int a0)]) (st' := [.int ((I 12 1) + 1), .int (I 16 (a0).toNatClampNeg)]) (I' := I) (J' := J) (by with_unfolding_all rfl) ?_
    refine pq_icn hB rfl (fun h2 => ?_) (fun h2 => ?_)
    · rw [h2, cond_true] at hq
      refine pq_s hB 1 (pc' := 30) (L' := [(0, .ref 12), (1, .int a0)]) (st' := [.int 0]) (I' := I) (J' := J) (by with_unfolding_all rfl) ?_
      subst hq
      exact pq_2i (x := 0) rfl ⟨rfl, rfl, rfl⟩
    · rw [h2, cond_false] at hq
      refine pq_s hB 2 (pc' := 30) (L' := [(0, .ref 12), (1, .int a0)]) (st' := [.int 1]) (I' := I) (J' := J) (by with_unfolding_all rfl) ?_
      subst hq
      exact pq_2i (x := 1) rfl ⟨rfl, rfl, rfl⟩
-- LP$Folk.stepNow
def f22_12 (I : tI) (J : tJ) (a0 : Int32) : Int32 × tI × tJ :=
  bif xcmp .ge (I 17 (a0).toNatClampNeg) 1 then ((I 18 (((a0 * 8) + ((I 12 1) - (I 12 1) / (I 17 (a0).toNatClampNeg) * (I 17 (a0).toNatClampNeg)))).toNatClampNeg), I, J) else (4, I, J)
set_option maxRecDepth 100000 in
theorem f22_12_pq {sc : List Int32} {B : xM} {n : Nat} {I : tI} {J : tJ} {a0 : Int32} (hB : kB pT B) : ∀ {q : Int32 × tI × tJ}, f22_12 I J a0 = q → pq sc B n (xt_22, 3, 1) 0 [(0, .ref 12), (1, .int a0)] [] I J (fun v I1 J1 => v = some (.int q.1) ∧ I1 = q.2.1 ∧ J1 = q.2.2) := by
  intro q hq
  unfold f22_12 at hq
  refine pq_s hB 7 (pc' := 9) (L' := [(2, .int (I 17 (a0).toNatClampNeg)), (0, .ref 12), (1, .int a0)]) (st' := [.int 1, .int (I 17 (a0).toNatClampNeg)]) (I' := I) (J' := J) (by with_unfolding_all rfl) ?_
  refine pq_icn hB rfl (fun h1 => ?_) (fun h1 => ?_)
  · rw [h1, cond_true] at hq
    refine pq_s hB 8 (pc' := 29) (L' := [(2, .int (I 17 (a0).toNatClampNeg)), (0, .ref 12), (1, .int a0)]) (st' := [.int (I 17 (a0).toNatClampNeg), .int (I 12 1), .int (a0 * 8), .ref 18]) (I' := I) (J' := J) (by with_unfolding_all rfl) ?_
    refine pq_irem hB rfl (fun _ => ?_)
    refine pq_s hB 2 (pc' := 32) (L' := [(2, .int (I 17 (a0).toNatClampNeg)), (0, .ref 12), (1, .int a0)]) (st' := [.int (I 18 (((a0 * 8) + ((I 12 1) - (I 12 1) / (I 17 (a0).toNatClampNeg) * (I 17 (a0).toNatClampNeg)))).toNatClampNeg)]) (I' := I) (J' := J) (by with_unfolding_all rfl) ?_
    subst hq
    exact pq_2i (x := (I 18 (((a0 * 8) + ((I 12 1) - (I 12 1) / (I 17 (a0).toNatClampNeg) * (I 17 (a0).toNatClampNeg)))).toNatClampNeg)) rfl ⟨rfl, rfl, rfl⟩
  · rw [h1, cond_false] at hq
    refine pq_s hB 2 (pc' := 32) (L' := [(2, .int (I 17 (a0).toNatClampNeg)), (0, .ref 12), (1, .int a0)]) (st' := [.int 4]) (I' := I) (J' := J) (by with_unfolding_all rfl) ?_
    subst hq
    exact pq_2i (x := 4) rfl ⟨rfl, rfl, rfl⟩
-- LP$Room.beside
def f48_11 (I : tI) (J : tJ) (a0 : Int32) (a1 : Int32) : Int32 × tI × tJ :=
  bif xcmp .eq a1 0 then (bif xcmp .ge ((a0 - a0 / 10 * 10) + 1) (I 11 0) then ((-1), I, J) else ((a0 + 1), I, J)) else bif xcmp .eq a1 1 then (bif xcmp .ge ((a0 / 10) + 1) (I 11 1) then ((-1), I, J) else ((a0 + 10), I, J)) else bif xcmp .eq a1 2 then (bif xcmp .le (a0 - a0 / 10 * 10) 0 then ((-1), I, J) else ((a0 - 1), I, J)) else bif xcmp .eq a1 3 then (bif xcmp .le (a0 / 10) 0 then ((-1), I, J) else ((a0 - 10), I, J)) else ((-1), I, J)
set_option maxRecDepth 100000 in
theorem f48_11_pq {sc : List Int32} {B : xM} {n : Nat} {I : tI} {J : tJ} {a0 : Int32} {a1 : Int32} (hB : kB pT B) : ∀ {q : Int32 × tI × tJ}, f48_11 I J a0 a1 = q → pq sc B n (xt_48, 5, 1) 0 [(0, .ref 11), (1, .int a0), (2, .int a1)] [] I J (fun v I1 J1 => v = some (.int q.1) ∧ I1 = q.2.1 ∧ J1 = q.2.2) := by
  intro q hq
  unfold f48_11 at hq
  refine pq_s hB 9 (pc' := 12) (L' := [(4, .int (a0 / 10)), (3, .int (a0 - a0 / 10 * 10)), (0, .ref 11), (1, .int a0), (2, .int a1)]) (st' := [.int a1]) (I' := I) (J' := J) (by with_unfolding_all rfl) ?_
  cases h1 : xcmp .eq a1 0 with
  | true =>
    rw [h1, cond_true] at hq
    refine pq_tsw_k hB (c := 0) (t := 44) rfl h1 rfl ?_
    refine pq_s hB 5 (pc' := 51) (L' := [(4, .int (a0 / 10)), (3, .int (a0 - a0 / 10 * 10)), (0, .ref 11), (1, .int a0), (2, .int a1)]) (st' := [.int (I 11 0), .int ((a0 - a0 / 10 * 10) + 1)]) (I' := I) (J' := J) (by with_unfolding_all rfl) ?_
    refine pq_icn hB rfl (fun h2 => ?_) (fun h2 => ?_)
    · rw [h2, cond_true] at hq
      refine pq_s hB 1 (pc' := 61) (L' := [(4, .int (a0 / 10)), (3, .int (a0 - a0 / 10 * 10)), (0, .ref 11), (1, .int a0), (2, .int a1)]) (st' := [.int (-1)]) (I' := I) (J' := J) (by with_unfolding_all rfl) ?_
      subst hq
      exact pq_2i (x := (-1)) rfl ⟨rfl, rfl, rfl⟩
    · rw [h2, cond_false] at hq
      refine pq_s hB 4 (pc' := 61) (L' := [(4, .int (a0 / 10)), (3, .int (a0 - a0 / 10 * 10)), (0, .ref 11), (1, .int a0), (2, .int a1)]) (st' := [.int (a0 + 1)]) (I' := I) (J' := J) (by with_unfolding_all rfl) ?_
      subst hq
      exact pq_2i (x := (a0 + 1)) rfl ⟨rfl, rfl, rfl⟩
  | false =>
    rw [h1, cond_false] at hq
    cases h3 : xcmp .eq a1 1 with
    | true =>
      rw [h3, cond_true] at hq
      refine pq_tsw_k hB (c := 1) (t := 62) rfl h3 rfl ?_
      refine pq_s hB 5 (pc' := 70) (L' := [(4, .int (a0 / 10)), (3, .int (a0 - a0 / 10 * 10)), (0, .ref 11), (1, .int a0), (2, .int a1)]) (st' := [.int (I 11 1), .int ((a0 / 10) + 1)]) (I' := I) (J' := J) (by with_unfolding_all rfl) ?_
      refine pq_icn hB rfl (fun h4 => ?_) (fun h4 => ?_)
      · rw [h4, cond_true] at hq
        refine pq_s hB 1 (pc' := 81) (L' := [(4, .int (a0 / 10)), (3, .int (a0 - a0 / 10 * 10)), (0, .ref 11), (1, .int a0), (2, .int a1)]) (st' := [.int (-1)]) (I' := I) (J' := J) (by with_unfolding_all rfl) ?_
        subst hq
        exact pq_2i (x := (-1)) rfl ⟨rfl, rfl, rfl⟩
      · rw [h4, cond_false] at hq
        refine pq_s hB 4 (pc' := 81) (L' := [(4, .int (a0 / 10)), (3, .int (a0 - a0 / 10 * 10)), (0, .ref 11), (1, .int a0), (2, .int a1)]) (st' := [.int (a0 + 10)]) (I' := I) (J' := J) (by with_unfolding_all rfl) ?_
        subst hq
        exact pq_2i (x := (a0 + 10)) rfl ⟨rfl, rfl, rfl⟩
    | false =>
      rw [h3, cond_false] at hq
      cases h5 : xcmp .eq a1 2 with
      | true =>
        rw [h5, cond_true] at hq
        refine pq_tsw_k hB (c := 2) (t := 82) rfl h5 rfl ?_
        refine pq_s hB 1 (pc' := 83) (L' := [(4, .int (a0 / 10)), (3, .int (a0 - a0 / 10 * 10)), (0, .ref 11), (1, .int a0), (2, .int a1)]) (st' := [.int (a0 - a0 / 10 * 10)]) (I' := I) (J' := J) (by with_unfolding_all rfl) ?_
        refine pq_ifn hB rfl (fun h6 => ?_) (fun h6 => ?_)
        · rw [h6, cond_true] at hq
          refine pq_s hB 1 (pc' := 93) (L' := [(4, .int (a0 / 10)), (3, .int (a0 - a0 / 10 * 10)), (0, .ref 11), (1, .int a0), (2, .int a1)]) (st' := [.int (-1)]) (I' := I) (J' := J) (by with_unfolding_all rfl) ?_
          subst hq
          exact pq_2i (x := (-1)) rfl ⟨rfl, rfl, rfl⟩
        · rw [h6, cond_false] at hq
          refine pq_s hB 4 (pc' := 93) (L' := [(4, .int (a0 / 10)), (3, .int (a0 - a0 / 10 * 10)), (0, .ref 11), (1, .int a0), (2, .int a1)]) (st' := [.int (a0 - 1)]) (I' := I) (J' := J) (by with_unfolding_all rfl) ?_
          subst hq
          exact pq_2i (x := (a0 - 1)) rfl ⟨rfl, rfl, rfl⟩
      | false =>
        rw [h5, cond_false] at hq
        cases h7 : xcmp .eq a1 3 with
        | true =>
          rw [h7, cond_true] at hq
          refine pq_tsw_k hB (c := 3) (t := 94) rfl h7 rfl ?_
          refine pq_s hB 1 (pc' := 96) (L' := [(4, .int (a0 / 10)), (3, .int (a0 - a0 / 10 * 10)), (0, .ref 11), (1, .int a0), (2, .int a1)]) (st' := [.int (a0 / 10)]) (I' := I) (J' := J) (by with_unfolding_all rfl) ?_
          refine pq_ifn hB rfl (fun h8 => ?_) (fun h8 => ?_)
          · rw [h8, cond_true] at hq
            refine pq_s hB 1 (pc' := 107) (L' := [(4, .int (a0 / 10)), (3, .int (a0 - a0 / 10 * 10)), (0, .ref 11), (1, .int a0), (2, .int a1)]) (st' := [.int (-1)]) (I' := I) (J' := J) (by with_unfolding_all rfl) ?_
            subst hq
            exact pq_2i (x := (-1)) rfl ⟨rfl, rfl, rfl⟩
          · rw [h8, cond_false] at hq
            refine pq_s hB 4 (pc' := 107) (L' := [(4, .int (a0 / 10)), (3, .int (a0 - a0 / 10 * 10)), (0, .ref 11), (1, .int a0), (2, .int a1)]) (st' := [.int (a0 - 10)]) (I' := I) (J' := J) (by with_unfolding_all rfl) ?_
            subst hq
            exact pq_2i (x := (a0 - 10)) rfl ⟨rfl, rfl, rfl⟩
        | false =>
          rw [h7, cond_false] at hq
          refine pq_tsw_d hB (cs := [0, 1, 2, 3]) rfl rfl rfl (List.forall_mem_cons.mpr ⟨h1, List.forall_mem_cons.mpr ⟨h3, List.forall_mem_cons.mpr ⟨h5, List.forall_mem_cons.mpr ⟨h7, fun c hc => by cases hc⟩⟩⟩⟩) ?_
          show pq sc B _ _ 108 _ _ _ _ _
          refine pq_s hB 1 (pc' := 109) (L' := [(4, .int (a0 / 10)), (3, .int (a0 - a0 / 10 * 10)), (0, .ref 11), (1, .int a0), (2, .int a1)]) (st' := [.int (-1)]) (I' := I) (J' := J) (by with_unfolding_all rfl) ?_
          subst hq
          exact pq_2i (x := (-1)) rfl ⟨rfl, rfl, rfl⟩
-- LP$Folk.isFree, the loop at 17, to [53, 45]
def f14_12_11_l17 (N : Nat) : Nat → tI → tJ → Int32 → Int32 → Option (Nat × Int32 × Int32 × tI × tJ)
  | 0, _, _, _, _ => none
  | k + 1, I, J, x1, x3 =>
    bif xcmp .ge x3 (I 12 0) then some (0, x1, x3, I, J) else bif xcmp .ne (I 19 (x3).toNatClampNeg) 1 then f14_12_11_l17 N k I J x1 (x3 + 1) else bif xcmp .ne (I 20 (x3).toNatClampNeg) x1 then f14_12_11_l17 N k I J x1 (x3 + 1) else some (1, x1, x3, I, J)
set_option maxRecDepth 100000 in
theorem f14_12_11_l17_pq {sc : List Int32} {B : xM} {N : Nat} {P : Option Value → tI → tJ → Prop} (hB : kB pT B) : ∀ (k : Nat), k ≤ N → ∀ (b m : Nat), b ≤ k → b ≤ m → ∀ {I : tI} {J : tJ} {x1 : Int32} {x3 : Int32} {Y : Option (Nat × Int32 × Int32 × tI × tJ)}, f14_12_11_l17 N k I J x1 x3 = Y → (∀ {y1 : Int32} {y3 : Int32} {I1 : tI} {J1 : tJ}, Y = some (0, y1, y3, I1, J1) → pq sc B m (xt_14, 4, 3) 53 [(0, .ref 12), (1, .int y1), (3, .int y3)] [] I1 J1 P) → (∀ {y1 : Int32} {y3 : Int32} {I1 : tI} {J1 : tJ}, Y = some (1, y1, y3, I1, J1) → pq sc B m (xt_14, 4, 3) 45 [(0, .ref 12), (1, .int y1), (3, .int y3)] [] I1 J1 P) → pq sc B b (xt_14, 4, 3) 17 [(0, .ref 12), (1, .int x1), (3, .int x3)] [] I J P
  | 0, _, b, _, hb, _, _, _, _, _, _, _, _, _ => by
    have e : b = 0 := by omega
    subst e
    exact pq_zero
  | _ + 1, _, 0, _, _, _, _, _, _, _, _, _, _, _ => pq_zero
  | k + 1, hk, b + 1, m, hb, hm, I, J, x1, x3, Y, hq, hx0, hx1 => by
    unfold f14_12_11_l17 at hq
    have hle : b ≤ N := by omega
    refine pq_s1 hB 2 (pc' := 22) (L' := [(0, .ref 12), (1, .int x1), (3, .int x3)]) (st' := [.int (I 12 0), .int x3]) (I' := I) (J' := J) (by with_unfolding_all rfl) ?_
    refine pq_icn hB rfl (fun h2 => ?_) (fun h2 => ?_)
    · rw [h2, cond_true] at hq
      exact pq_le (by omega) (hx0 hq.symm)
    · rw [h2, cond_false] at hq
      refine pq_s hB 5 (pc' := 32) (L' := [(0, .ref 12), (1, .int x1), (3, .int x3)]) (st' := [.int 1, .int (I 19 (x3).toNatClampNeg)]) (I' := I) (J' := J) (by with_unfolding_all rfl) ?_
      refine pq_icn hB rfl (fun h3 => ?_) (fun h3 => ?_)
      · rw [h3, cond_true] at hq
        refine pq_s hB 2 (pc' := 17) (L' := [(3, .int (x3 + 1)), (0, .ref 12), (1, .int x1)]) (st' := []) (I' := I) (J' := J) (by with_unfolding_all rfl) ?_
        refine pq_perm (L := [(0, .ref 12), (1, .int x1), (3, .int (x3 + 1))]) (leqn_of ⟨rfl, rfl, rfl, trivial⟩ ⟨rfl, rfl, rfl, trivial⟩ ⟨rfl, rfl, rfl, trivial⟩) ?_
        exact f14_12_11_l17_pq hB k (by omega) b m (by omega) (by omega) hq hx0 hx1
      · rw [h3, cond_false] at hq
        refine pq_s hB 5 (pc' := 42) (L' := [(0, .ref 12), (1, .int x1), (3, .int x3)]) (st' := [.int x1, .int (I 20 (x3).toNatClampNeg)]) (I' := I) (J' := J) (by with_unfolding_all rfl) ?_
        refine pq_icn hB rfl (fun h4 => ?_) (fun h4 => ?_)
        · rw [h4, cond_true] at hq
          refine pq_s hB 2 (pc' := 17) (L' := [(3, .int (x3 + 1)), (0, .ref 12), (1, .int x1)]) (st' := []) (I' := I) (J' := J) (by with_unfolding_all rfl) ?_
          refine pq_perm (L := [(0, .ref 12), (1, .int x1), (3, .int (x3 + 1))]) (leqn_of ⟨rfl, rfl, rfl, trivial⟩ ⟨rfl, rfl, rfl, trivial⟩ ⟨rfl, rfl, rfl, trivial⟩) ?_
          exact f14_12_11_l17_pq hB k (by omega) b m (by omega) (by omega) hq hx0 hx1
        · rw [h4, cond_false] at hq
          exact pq_le (by omega) (hx1 hq.symm)
-- LP$Folk.isFree
def f14_12_11 (N : Nat) (I : tI) (J : tJ) (a0 : Int32) : Option (Int32 × tI × tJ) :=
  bif xcmp .eq (lg_cmp (((((J 11 2)).toUInt64 >>> ((Int32.toInt64 (a0)).toUInt64 &&& Int64.toUInt64 63)).toInt64) &&& 1) 0) 0 then (match f14_12_11_l17 N N I J a0 0 with | none => none | some (k2, y2_1, y2_3, I2, J2) => bif Nat.beq k2 0 then (some (1, I2, J2)) else some (0, I2, J2)) else some (0, I, J)
set_option maxRecDepth 100000 in
theorem f14_12_11_pq {sc : List Int32} {B : xM} {N : Nat} {I : tI} {J : tJ} {a0 : Int32} (hB : kB pT B) : ∀ {X : Option (Int32 × tI × tJ)}, f14_12_11 N I J a0 = X → pq sc B N (xt_14, 4, 3) 0 [(0, .ref 12), (1, .int a0), (2, .ref 11)] [] I J (fun v I1 J1 => ∃ a, v = some (.int a) ∧ X = some (a, I1, J1)) := by
  intro X hq
  unfold f14_12_11 at hq
  have hle : N ≤ N := Nat.le_refl N
  refine pq_s hB 8 (pc' := 10) (L' := [(0, .ref 12), (1, .int a0), (2, .ref 11)]) (st' := [.int (lg_cmp (((((J 11 2)).toUInt64 >>> ((Int32.toInt64 (a0)).toUInt64 &&& Int64.toUInt64 63)).toInt64) &&& 1) 0)]) (I' := I) (J' := J) (by with_unfolding_all rfl) ?_
  refine pq_ifn hB rfl (fun h1 => ?_) (fun h1 => ?_)
  · rw [h1, cond_true] at hq
    refine pq_s hB 2 (pc' := 17) (L' := [(3, .int 0), (0, .ref 12), (1, .int a0), (2, .ref 11)]) (st' := []) (I' := I) (J' := J) (by with_unfolding_all rfl) ?_
    refine pq_perm (L := [(0, .ref 12), (1, .int a0), (3, .int 0)]) (leqn_of ⟨rfl, rfl, rfl, trivial⟩ ⟨rfl, rfl, rfl, trivial⟩ ⟨rfl, rfl, rfl, rfl, trivial⟩) ?_
    refine f14_12_11_l17_pq hB N (Nat.le_refl N) N N hle (Nat.le_refl N) rfl ?_ ?_
    ·
      intro y2_1 y2_3 I2 J2 hc2
      rw [hc2] at hq
      dsimp only at hq
      rw [show Nat.beq 0 0 = true from rfl, cond_true] at hq
      refine pq_s hB 1 (pc' := 54) (L' := [(0, .ref 12), (1, .int y2_1), (3, .int y2_3)]) (st' := [.int 1]) (I' := I2) (J' := J2) (by with_unfolding_all rfl) ?_
      subst hq
      exact pq_2i (x := 1) rfl ⟨_, rfl, rfl⟩
    ·
      intro y2_1 y2_3 I2 J2 hc2
      rw [hc2] at hq
      dsimp only at hq
      rw [show Nat.beq 1 0 = false from rfl, cond_false] at hq
      refine pq_s hB 1 (pc' := 46) (L' := [(0, .ref 12), (1, .int y2_1), (3, .int y2_3)]) (st' := [.int 0]) (I' := I2) (J' := J2) (by with_unfolding_all rfl) ?_
      subst hq
      exact pq_2i (x := 0) rfl ⟨_, rfl, rfl⟩
  · rw [h1, cond_false] at hq
    refine pq_s hB 1 (pc' := 14) (L' := [(0, .ref 12), (1, .int a0), (2, .ref 11)]) (st' := [.int 0]) (I' := I) (J' := J) (by with_unfolding_all rfl) ?_
    subst hq
    exact pq_2i (x := 0) rfl ⟨_, rfl, rfl⟩
-- LP$Folk.walk
def f20_12_11 (N : Nat) (I : tI) (J : tJ) (a0 : Int32) : Option (Unit × tI × tJ) :=
  (match f21_12 I J a0 with | (v1, I1, J1) => bif xcmp .eq v1 0 then (match f22_12 I1 J1 a0 with | (v3, I3, J3) => (match f48_11 I3 J3 (I1 20 (a0).toNatClampNeg) v3 with | (v4, I4, J4) => bif xcmp .eq v4 (-1) then some ((), I4, J4) else (match f14_12_11 N I4 J4 v4 with | none => none | some (v6, I6, J6) => bif xcmp .eq v6 0 then some ((), I6, J6) else some ((), (tup I6 20 ((a0).toNatClampNeg) v4), J6)))) else some ((), (tup I1 19 ((a0).toNatClampNeg) 2), J1))
set_option maxRecDepth 100000 in
theorem f20_12_11_pq {sc : List Int32} {B : xM} {N : Nat} {I : tI} {J : tJ} {a0 : Int32} (hB : kB pT B) : ∀ {X : Option (Unit × tI × tJ)}, f20_12_11 N I J a0 = X → pq sc B N (xt_20, 4, 0) 0 [(0, .ref 12), (1, .int a0), (2, .ref 11)] [] I J (fun v I1 J1 => v = none ∧ X = some ((), I1, J1)) := by
  intro X hq
  unfold f20_12_11 at hq
  have hle : N ≤ N := Nat.le_refl N
  refine pq_s hB 2 (pc' := 2) (L' := [(0, .ref 12), (1, .int a0), (2, .ref 11)]) (st' := [.int a0, .ref 12]) (I' := I) (J' := J) (by with_unfolding_all rfl) ?_
  generalize hc1 : f21_12 I J a0 = q1 at hq
  obtain ⟨v1, _, _⟩ := q1
  dsimp only at hq
  refine pq_1 rfl rfl rfl rfl (f21_12_pq hB hc1) ?_
  rintro _ I1 J1 ⟨rfl, rfl, rfl⟩
  refine pq_ifn hB rfl (fun h2 => ?_) (fun h2 => ?_)
  · rw [h2, cond_true] at hq
    refine pq_s hB 7 (pc' := 25) (L' := [(0, .ref 12), (1, .int a0), (2, .ref 11)]) (st' := [.int a0, .ref 12, .int (I1 20 (a0).toNatClampNeg), .ref 11]) (I' := I1) (J' := J1) (by with_unfolding_all rfl) ?_
    generalize hc3 : f22_12 I1 J1 a0 = q3 at hq
    obtain ⟨v3, _, _⟩ := q3
    dsimp only at hq
    refine pq_1 rfl rfl rfl rfl (f22_12_pq hB hc3) ?_
    rintro _ I3 J3 ⟨rfl, rfl, rfl⟩
    generalize hc4 : f48_11 I3 J3 (I1 20 (a0).toNatClampNeg) v3 = q4 at hq
    obtain ⟨v4, _, _⟩ := q4
    dsimp only at hq
    refine pq_1 rfl rfl rfl rfl (f48_11_pq hB hc4) ?_
    rintro _ I4 J4 ⟨rfl, rfl, rfl⟩
    refine pq_s hB 3 (pc' := 34) (L' := [(3, .int v4), (0, .ref 12), (1, .int a0), (2, .ref 11)]) (st' := [.int (-1), .int v4]) (I' := I4) (J' := J4) (by with_unfolding_all rfl) ?_
    refine pq_icn hB rfl (fun h5 => ?_) (fun h5 => ?_)
    · rw [h5, cond_true] at hq
      subst hq
      exact pq_2 (v := none) rfl rfl (by with_unfolding_all rfl) ⟨rfl, rfl⟩
    · rw [h5, cond_false] at hq
      refine pq_s hB 3 (pc' := 40) (L' := [(3, .int v4), (0, .ref 12), (1, .int a0), (2, .ref 11)]) (st' := [.ref 11, .int v4, .ref 12]) (I' := I4) (J' := J4) (by with_unfolding_all rfl) ?_
      refine pq_1 rfl rfl rfl rfl (pq_le hle (f14_12_11_pq hB rfl)) ?_
      rintro _ I6 J6 ⟨v6, rfl, hc6⟩
      rw [hc6] at hq
      dsimp only at hq
      refine pq_ifn hB rfl (fun h7 => ?_) (fun h7 => ?_)
      · rw [h7, cond_true] at hq
        subst hq
        exact pq_2 (v := none) rfl rfl (by with_unfolding_all rfl) ⟨rfl, rfl⟩
      · rw [h7, cond_false] at hq
        refine pq_s hB 5 (pc' := 53) (L' := [(3, .int v4), (0, .ref 12), (1, .int a0), (2, .ref 11)]) (st' := []) (I' := (tup I6 20 ((a0).toNatClampNeg) v4)) (J' := J6) (by with_unfolding_all rfl) ?_
        subst hq
        exact pq_2 (v := none) rfl rfl (by with_unfolding_all rfl) ⟨rfl, rfl⟩
  · rw [h2, cond_false] at hq
    refine pq_s hB 5 (pc' := 15) (L' := [(0, .ref 12), (1, .int a0), (2, .ref 11)]) (st' := []) (I' := (tup I1 19 ((a0).toNatClampNeg) 2)) (J' := J1) (by with_unfolding_all rfl) ?_
    subst hq
    exact pq_2 (v := none) rfl rfl (by with_unfolding_all rfl) ⟨rfl, rfl⟩
-- LP$Folk.enter
def f19_12_11 (N : Nat) (I : tI) (J : tJ) (a0 : Int32) : Option (Unit × tI × tJ) :=
  bif xcmp .le (I 15 (a0).toNatClampNeg) ((I 12 1) + 1) then (match f21_12 I J a0 with | (v2, I2, J2) => bif xcmp .eq v2 0 then (match f14_12_11 N I2 J2 (I2 14 (a0).toNatClampNeg) with | none => none | some (v4, I4, J4) => bif xcmp .eq v4 0 then some ((), I4, J4) else some ((), (tup (tup I4 19 ((a0).toNatClampNeg) 1) 20 ((a0).toNatClampNeg) (I4 14 (a0).toNatClampNeg)), J4)) else some ((), (tup I2 19 ((a0).toNatClampNeg) 2), J2)) else some ((), I, J)
set_option maxRecDepth 100000 in
theorem f19_12_11_pq {sc : List Int32} {B : xM} {N : Nat} {I : tI} {J : tJ} {a0 : Int32} (hB : kB pT B) : ∀ {X : Option (Unit × tI × tJ)}, f19_12_11 N I J a0 = X → pq sc B N (xt_19, 3, 0) 0 [(0, .ref 12), (1, .int a0), (2, .ref 11)] [] I J (fun v I1 J1 => v = none ∧ X = some ((), I1, J1)) := by
  intro X hq
  unfold f19_12_11 at hq
  have hle : N ≤ N := Nat.le_refl N
  refine pq_s hB 8 (pc' := 12) (L' := [(0, .ref 12), (1, .int a0), (2, .ref 11)]) (st' := [.int ((I 12 1) + 1), .int (I 15 (a0).toNatClampNeg)]) (I' := I) (J' := J) (by with_unfolding_all rfl) ?_
  refine pq_icn hB rfl (fun h1 => ?_) (fun h1 => ?_)
  · rw [h1, cond_true] at hq
    refine pq_s hB 2 (pc' := 18) (L' := [(0, .ref 12), (1, .int a0), (2, .ref 11)]) (st' := [.int a0, .ref 12]) (I' := I) (J' := J) (by with_unfolding_all rfl) ?_
    generalize hc2 : f21_12 I J a0 = q2 at hq
    obtain ⟨v2, _, _⟩ := q2
    dsimp only at hq
    refine pq_1 rfl rfl rfl rfl (f21_12_pq hB hc2) ?_
    rintro _ I2 J2 ⟨rfl, rfl, rfl⟩
    refine pq_ifn hB rfl (fun h3 => ?_) (fun h3 => ?_)
    · rw [h3, cond_true] at hq
      refine pq_s hB 6 (pc' := 42) (L' := [(0, .ref 12), (1, .int a0), (2, .ref 11)]) (st' := [.ref 11, .int (I2 14 (a0).toNatClampNeg), .ref 12]) (I' := I2) (J' := J2) (by with_unfolding_all rfl) ?_
      refine pq_1 rfl rfl rfl rfl (pq_le hle (f14_12_11_pq hB rfl)) ?_
      rintro _ I4 J4 ⟨v4, rfl, hc4⟩
      rw [hc4] at hq
      dsimp only at hq
      refine pq_ifn hB rfl (fun h5 => ?_) (fun h5 => ?_)
      · rw [h5, cond_true] at hq
        subst hq
        exact pq_2 (v := none) rfl rfl (by with_unfolding_all rfl) ⟨rfl, rfl⟩
      · rw [h5, cond_false] at hq
        refine pq_s hB 13 (pc' := 67) (L' := [(0, .ref 12), (1, .int a0), (2, .ref 11)]) (st' := []) (I' := (tup (tup I4 19 ((a0).toNatClampNeg) 1) 20 ((a0).toNatClampNeg) (I4 14 (a0).toNatClampNeg))) (J' := J4) (by with_unfolding_all rfl) ?_
        subst hq
        exact pq_2 (v := none) rfl rfl (by with_unfolding_all rfl) ⟨rfl, rfl⟩
    · rw [h3, cond_false] at hq
      refine pq_s hB 6 (pc' := 67) (L' := [(0, .ref 12), (1, .int a0), (2, .ref 11)]) (st' := []) (I' := (tup I2 19 ((a0).toNatClampNeg) 2)) (J' := J2) (by with_unfolding_all rfl) ?_
      subst hq
      exact pq_2 (v := none) rfl rfl (by with_unfolding_all rfl) ⟨rfl, rfl⟩
  · rw [h1, cond_false] at hq
    subst hq
    exact pq_2 (v := none) rfl rfl (by with_unfolding_all rfl) ⟨rfl, rfl⟩
-- LP$Folk.goOn, the loop at 2, to [50]
def f18_12_11_l2 (N : Nat) : Nat → tI → tJ → Int32 → Option (Int32 × tI × tJ)
  | 0, _, _, _ => none
  | k + 1, I, J, x2 =>
    bif xcmp .ge x2 (I 12 0) then some (x2, I, J) else bif xcmp .ne (I 19 (x2).toNatClampNeg) 0 then (bif xcmp .ne (I 19 (x2).toNatClampNeg) 1 then f18_12_11_l2 N k I J (x2 + 1) else (match f20_12_11 N I J x2 with | none => none | some (_, I4, J4) => f18_12_11_l2 N k I4 J4 (x2 + 1))) else (match f19_12_11 N I J x2 with | none => none | some (_, I5, J5) => f18_12_11_l2 N k I5 J5 (x2 + 1))
set_option maxRecDepth 100000 in
theorem f18_12_11_l2_pq {sc : List Int32} {B : xM} {N : Nat} {P : Option Value → tI → tJ → Prop} (hB : kB pT B) : ∀ (k : Nat), k ≤ N → ∀ (b m : Nat), b ≤ k → b ≤ m → ∀ {I : tI} {J : tJ} {x2 : Int32} {Y : Option (Int32 × tI × tJ)}, f18_12_11_l2 N k I J x2 = Y → (∀ {y2 : Int32} {I1 : tI} {J1 : tJ}, Y = some (y2, I1, J1) → pq sc B m (xt_18, 3, 0) 50 [(0, .ref 12), (1, .ref 11), (2, .int y2)] [] I1 J1 P) → pq sc B b (xt_18, 3, 0) 2 [(0, .ref 12), (1, .ref 11), (2, .int x2)] [] I J P
  | 0, _, b, _, hb, _, _, _, _, _, _, _ => by
    have e : b = 0 := by omega
    subst e
    exact pq_zero
  | _ + 1, _, 0, _, _, _, _, _, _, _, _, _ => pq_zero
  | k + 1, hk, b + 1, m, hb, hm, I, J, x2, Y, hq, hx0 => by
    unfold f18_12_11_l2 at hq
    have hle : b ≤ N := by omega
    refine pq_s1 hB 2 (pc' := 7) (L' := [(0, .ref 12), (1, .ref 11), (2, .int x2)]) (st' := [.int (I 12 0), .int x2]) (I' := I) (J' := J) (by with_unfolding_all rfl) ?_
    refine pq_icn hB rfl (fun h1 => ?_) (fun h1 => ?_)
    · rw [h1, cond_true] at hq
      exact pq_le (by omega) (hx0 hq.symm)
    · rw [h1, cond_false] at hq
      refine pq_s hB 4 (pc' := 16) (L' := [(0, .ref 12), (1, .ref 11), (2, .int x2)]) (st' := [.int (I 19 (x2).toNatClampNeg)]) (I' := I) (J' := J) (by with_unfolding_all rfl) ?_
      refine pq_ifn hB rfl (fun h2 => ?_) (fun h2 => ?_)
      · rw [h2, cond_true] at hq
        refine pq_s hB 5 (pc' := 35) (L' := [(0, .ref 12), (1, .ref 11), (2, .int x2)]) (st' := [.int 1, .int (I 19 (x2).toNatClampNeg)]) (I' := I) (J' := J) (by with_unfolding_all rfl) ?_
        refine pq_icn hB rfl (fun h3 => ?_) (fun h3 => ?_)
        · rw [h3, cond_true] at hq
          refine pq_s hB 2 (pc' := 2) (L' := [(2, .int (x2 + 1)), (0, .ref 12), (1, .ref 11)]) (st' := []) (I' := I) (J' := J) (by with_unfolding_all rfl) ?_
          refine pq_perm (L := [(0, .ref 12), (1, .ref 11), (2, .int (x2 + 1))]) (leqn_of ⟨rfl, rfl, rfl, trivial⟩ ⟨rfl, rfl, rfl, trivial⟩ ⟨rfl, rfl, rfl, trivial⟩) ?_
          exact f18_12_11_l2_pq hB k (by omega) b m (by omega) (by omega) hq hx0
        · rw [h3, cond_false] at hq
          refine pq_s hB 3 (pc' := 41) (L' := [(0, .ref 12), (1, .ref 11), (2, .int x2)]) (st' := [.ref 11, .int x2, .ref 12]) (I' := I) (J' := J) (by with_unfolding_all rfl) ?_
          refine pq_1 rfl rfl rfl rfl (pq_le hle (f20_12_11_pq hB rfl)) ?_
          rintro _ I4 J4 ⟨rfl, hc4⟩
          rw [hc4] at hq
          dsimp only at hq
          refine pq_s hB 2 (pc' := 2) (L' := [(2, .int (x2 + 1)), (0, .ref 12), (1, .ref 11)]) (st' := []) (I' := I4) (J' := J4) (by with_unfolding_all rfl) ?_
          refine pq_perm (L := [(0, .ref 12), (1, .ref 11), (2, .int (x2 + 1))]) (leqn_of ⟨rfl, rfl, rfl, trivial⟩ ⟨rfl, rfl, rfl, trivial⟩ ⟨rfl, rfl, rfl, trivial⟩) ?_
          exact f18_12_11_l2_pq hB k (by omega) b m (by omega) (by omega) hq hx0
      · rw [h2, cond_false] at hq
        refine pq_s hB 3 (pc' := 22) (L' := [(0, .ref 12), (1, .ref 11), (2, .int x2)]) (st' := [.ref 11, .int x2, .ref 12]) (I' := I) (J' := J) (by with_unfolding_all rfl) ?_
        refine pq_1 rfl rfl rfl rfl (pq_le hle (f19_12_11_pq hB rfl)) ?_
        rintro _ I5 J5 ⟨rfl, hc5⟩
        rw [hc5] at hq
        dsimp only at hq
        refine pq_s hB 3 (pc' := 2) (L' := [(2, .int (x2 + 1)), (0, .ref 12), (1, .ref 11)]) (st' := []) (I' := I5) (J' := J5) (by with_unfolding_all rfl) ?_
        refine pq_perm (L := [(0, .ref 12), (1, .ref 11), (2, .int (x2 + 1))]) (leqn_of ⟨rfl, rfl, rfl, trivial⟩ ⟨rfl, rfl, rfl, trivial⟩ ⟨rfl, rfl, rfl, trivial⟩) ?_
        exact f18_12_11_l2_pq hB k (by omega) b m (by omega) (by omega) hq hx0
-- LP$Folk.goOn
def f18_12_11 (N : Nat) (I : tI) (J : tJ) : Option (Unit × tI × tJ) :=
  (match f18_12_11_l2 N N I J 0 with | none => none | some (y1_2, I1, J1) => some ((), (tup I1 12 1 ((I1 12 1) + 1)), J1))
set_option maxRecDepth 100000 in
theorem f18_12_11_pq {sc : List Int32} {B : xM} {N : Nat} {I : tI} {J : tJ} (hB : kB pT B) : ∀ {X : Option (Unit × tI × tJ)}, f18_12_11 N I J = X → pq sc B N (xt_18, 3, 0) 0 [(0, .ref 12), (1, .ref 11)] [] I J (fun v I1 J1 => v = none ∧ X = some ((), I1, J1)) := by
  intro X hq
  unfold f18_12_11 at hq
  have hle : N ≤ N := Nat.le_refl N
  refine pq_s hB 2 (pc' := 2) (L' := [(2, .int 0), (0, .ref 12), (1, .ref 11)]) (st' := []) (I' := I) (J' := J) (by with_unfolding_all rfl) ?_
  refine pq_perm (L := [(0, .ref 12), (1, .ref 11), (2, .int 0)]) (leqn_of ⟨rfl, rfl, rfl, trivial⟩ ⟨rfl, rfl, rfl, trivial⟩ ⟨rfl, rfl, rfl, trivial⟩) ?_
  refine f18_12_11_l2_pq hB N (Nat.le_refl N) N N hle (Nat.le_refl N) rfl ?_
  intro y1_2 I1 J1 hc1
  rw [hc1] at hq
  dsimp only at hq
  refine pq_s hB 6 (pc' := 60) (L' := [(0, .ref 12), (1, .ref 11), (2, .int y1_2)]) (st' := []) (I' := (tup I1 12 1 ((I1 12 1) + 1))) (J' := J1) (by with_unfolding_all rfl) ?_
  subst hq
  exact pq_2 (v := none) rfl rfl (by with_unfolding_all rfl) ⟨rfl, rfl⟩
-- LP$World.keepFor
def f111_10 (I : tI) (J : tJ) (a0 : Int32) (a1 : Int32) : Unit × tI × tJ :=
  (match f127 I J a0 1 120 with | (v1, I1, J1) => bif xcmp .eq v1 0 then ((), I1, J1) else ((), (tup I1 33 ((a0).toNatClampNeg) a1), J1))
set_option maxRecDepth 100000 in
theorem f111_10_pq {sc : List Int32} {B : xM} {n : Nat} {I : tI} {J : tJ} {a0 : Int32} {a1 : Int32} (hB : kB pT B) : ∀ {q : Unit × tI × tJ}, f111_10 I J a0 a1 = q → pq sc B n (xt_111, 3, 0) 0 [(0, .ref 10), (1, .int a0), (2, .int a1)] [] I J (fun v I1 J1 => v = none ∧ I1 = q.2.1 ∧ J1 = q.2.2) := by
  intro q hq
  unfold f111_10 at hq
  refine pq_s hB 3 (pc' := 4) (L' := [(0, .ref 10), (1, .int a0), (2, .int a1)]) (st' := [.int 120, .int 1, .int a0]) (I' := I) (J' := J) (by with_unfolding_all rfl) ?_
  generalize hc1 : f127 I J a0 1 120 = q1 at hq
  obtain ⟨v1, _, _⟩ := q1
  dsimp only at hq
  refine pq_1 rfl rfl rfl rfl (f127_pq hB hc1) ?_
  rintro _ I1 J1 ⟨rfl, rfl, rfl⟩
  refine pq_ifn hB rfl (fun h2 => ?_) (fun h2 => ?_)
  · rw [h2, cond_true] at hq
    subst hq
    exact pq_2 (v := none) rfl rfl (by with_unfolding_all rfl) ⟨rfl, rfl, rfl⟩
  · rw [h2, cond_false] at hq
    refine pq_s hB 5 (pc' := 17) (L' := [(0, .ref 10), (1, .int a0), (2, .int a1)]) (st' := []) (I' := (tup I1 33 ((a0).toNatClampNeg) a1)) (J' := J1) (by with_unfolding_all rfl) ?_
    subst hq
    exact pq_2 (v := none) rfl rfl (by with_unfolding_all rfl) ⟨rfl, rfl, rfl⟩
-- LP$World.makePrint
def f110_10 (N : Nat) (I : tI) (J : tJ) (a0 : Int32) : Option (Unit × tI × tJ) :=
  bif xcmp .eq a0 (-1) then (match f18_12_11 N I J with | none => none | some (_, I2, J2) => some ((), I2, J2)) else (match f106_10 I J ((I 12 1) + 1) with | (v3, I3, J3) => (match f111_10 (tup I3 32 ((a0).toNatClampNeg) ((I 32 (a0).toNatClampNeg) - v3)) J3 ((I 12 1) + 1) a0 with | (_, I4, J4) => (match f18_12_11 N I4 J4 with | none => none | some (_, I5, J5) => some ((), I5, J5))))
set_option maxRecDepth 100000 in
theorem f110_10_pq {sc : List Int32} {B : xM} {N : Nat} {I : tI} {J : tJ} {a0 : Int32} (hB : kB pT B) : ∀ {X : Option (Unit × tI × tJ)}, f110_10 N I J a0 = X → pq sc B N (xt_110, 3, 0) 0 [(0, .ref 10), (1, .int a0)] [] I J (fun v I1 J1 => v = none ∧ X = some ((), I1, J1)) := by
  intro X hq
  unfold f110_10 at hq
  have hle : N ≤ N := Nat.le_refl N
  refine pq_s hB 8 (pc' := 12) (L' := [(2, .int ((I 12 1) + 1)), (0, .ref 10), (1, .int a0)]) (st' := [.int (-1), .int a0]) (I' := I) (J' := J) (by with_unfolding_all rfl) ?_
  refine pq_icn hB rfl (fun h1 => ?_) (fun h1 => ?_)
  · rw [h1, cond_true] at hq
    refine pq_s hB 4 (pc' := 43) (L' := [(2, .int ((I 12 1) + 1)), (0, .ref 10), (1, .int a0)]) (st' := [.ref 11, .ref 12]) (I' := I) (J' := J) (by with_unfolding_all rfl) ?_
    refine pq_1 rfl rfl rfl rfl (pq_le hle (f18_12_11_pq hB rfl)) ?_
    rintro _ I2 J2 ⟨rfl, hc2⟩
    rw [hc2] at hq
    dsimp only at hq
    subst hq
    exact pq_2 (v := none) rfl rfl (by with_unfolding_all rfl) ⟨rfl, rfl⟩
  · rw [h1, cond_false] at hq
    refine pq_s hB 7 (pc' := 24) (L' := [(2, .int ((I 12 1) + 1)), (0, .ref 10), (1, .int a0)]) (st' := [.int ((I 12 1) + 1), .ref 10, .int (I 32 (a0).toNatClampNeg), .int a0, .ref 32]) (I' := I) (J' := J) (by with_unfolding_all rfl) ?_
    generalize hc3 : f106_10 I J ((I 12 1) + 1) = q3 at hq
    obtain ⟨v3, _, _⟩ := q3
    dsimp only at hq
    refine pq_1 rfl rfl rfl rfl (f106_10_pq hB hc3) ?_
    rintro _ I3 J3 ⟨rfl, rfl, rfl⟩
    refine pq_s hB 5 (pc' := 32) (L' := [(2, .int ((I 12 1) + 1)), (0, .ref 10), (1, .int a0)]) (st' := [.int a0, .int ((I 12 1) + 1), .ref 10]) (I' := (tup I3 32 ((a0).toNatClampNeg) ((I 32 (a0).toNatClampNeg) - v3))) (J' := J3) (by with_unfolding_all rfl) ?_
    generalize hc4 : f111_10 (tup I3 32 ((a0).toNatClampNeg) ((I 32 (a0).toNatClampNeg) - v3)) J3 ((I 12 1) + 1) a0 = q4 at hq
    obtain ⟨v4, _, _⟩ := q4
    dsimp only at hq
    refine pq_1 rfl rfl rfl rfl (f111_10_pq hB hc4) ?_
    rintro _ I4 J4 ⟨rfl, rfl, rfl⟩
    refine pq_s hB 4 (pc' := 43) (L' := [(2, .int ((I 12 1) + 1)), (0, .ref 10), (1, .int a0)]) (st' := [.ref 11, .ref 12]) (I' := I4) (J' := J4) (by with_unfolding_all rfl) ?_
    refine pq_1 rfl rfl rfl rfl (pq_le hle (f18_12_11_pq hB rfl)) ?_
    rintro _ I5 J5 ⟨rfl, hc5⟩
    rw [hc5] at hq
    dsimp only at hq
    subst hq
    exact pq_2 (v := none) rfl rfl (by with_unfolding_all rfl) ⟨rfl, rfl⟩
-- LP.buy, the loop at 26, to [57]
def f156_0_l26 (N : Nat) : Nat → tI → tJ → Int32 → Int32 → Int32 → Option (Int32 × Int32 × Int32 × tI × tJ)
  | 0, _, _, _, _, _ => none
  | k + 1, I, J, x1, x2, x3 =>
    bif xcmp .ge x3 x2 then some (x1, x2, x3, I, J) else (match f109_10 I J x1 1 with | (v7, I7, J7) => bif xcmp .eq v7 0 then some (x1, x2, x3, I7, J7) else (match f110_10 N I7 J7 x1 with | none => none | some (_, I9, J9) => f156_0_l26 N k I9 J9 x1 x2 (x3 + 1)))
set_option maxRecDepth 100000 in
theorem f156_0_l26_pq {sc : List Int32} {B : xM} {N : Nat} {P : Option Value → tI → tJ → Prop} (hB : kB pT B) : ∀ (k : Nat), k ≤ N → ∀ (b m : Nat), b ≤ k → b ≤ m → ∀ {I : tI} {J : tJ} {x1 : Int32} {x2 : Int32} {x3 : Int32} {Y : Option (Int32 × Int32 × Int32 × tI × tJ)}, f156_0_l26 N k I J x1 x2 x3 = Y → (∀ {y1 : Int32} {y2 : Int32} {y3 : Int32} {I1 : tI} {J1 : tJ}, Y = some (y1, y2, y3, I1, J1) → pq sc B m (xt_156, 4, 1) 57 [(0, .ref 0), (1, .int y1), (2, .int y2), (3, .int y3)] [] I1 J1 P) → pq sc B b (xt_156, 4, 1) 26 [(0, .ref 0), (1, .int x1), (2, .int x2), (3, .int x3)] [] I J P
  | 0, _, b, _, hb, _, _, _, _, _, _, _, _, _ => by
    have e : b = 0 := by omega
    subst e
    exact pq_zero
  | _ + 1, _, 0, _, _, _, _, _, _, _, _, _, _, _ => pq_zero
  | k + 1, hk, b + 1, m, hb, hm, I, J, x1, x2, x3, Y, hq, hx0 => by
    unfold f156_0_l26 at hq
    have hle : b ≤ N := by omega
    refine pq_s1 hB 1 (pc' := 28) (L' := [(0, .ref 0), (1, .int x1), (2, .int x2), (3, .int x3)]) (st' := [.int x2, .int x3]) (I' := I) (J' := J) (by with_unfolding_all rfl) ?_
    refine pq_icn hB rfl (fun h6 => ?_) (fun h6 => ?_)
    · rw [h6, cond_true] at hq
      exact pq_le (by omega) (hx0 hq.symm)
    · rw [h6, cond_false] at hq
      refine pq_s hB 4 (pc' := 37) (L' := [(0, .ref 0), (1, .int x1), (2, .int x2), (3, .int x3)]) (st' := [.int 1, .int x1, .ref 10]) (I' := I) (J' := J) (by with_unfolding_all rfl) ?_
      generalize hc7 : f109_10 I J x1 1 = q7 at hq
      obtain ⟨v7, _, _⟩ := q7
      dsimp only at hq
      refine pq_1 rfl rfl rfl rfl (f109_10_pq hB hc7) ?_
      rintro _ I7 J7 ⟨rfl, rfl, rfl⟩
      refine pq_ifn hB rfl (fun h8 => ?_) (fun h8 => ?_)
      · rw [h8, cond_true] at hq
        exact pq_le (by omega) (hx0 hq.symm)
      · rw [h8, cond_false] at hq
        refine pq_s hB 3 (pc' := 48) (L' := [(0, .ref 0), (1, .int x1), (2, .int x2), (3, .int x3)]) (st' := [.int x1, .ref 10]) (I' := I7) (J' := J7) (by with_unfolding_all rfl) ?_
        refine pq_1 rfl rfl rfl rfl (pq_le hle (f110_10_pq hB rfl)) ?_
        rintro _ I9 J9 ⟨rfl, hc9⟩
        rw [hc9] at hq
        dsimp only at hq
        refine pq_s hB 2 (pc' := 26) (L' := [(3, .int (x3 + 1)), (0, .ref 0), (1, .int x1), (2, .int x2)]) (st' := []) (I' := I9) (J' := J9) (by with_unfolding_all rfl) ?_
        refine pq_perm (L := [(0, .ref 0), (1, .int x1), (2, .int x2), (3, .int (x3 + 1))]) (leqn_of ⟨rfl, rfl, rfl, rfl, trivial⟩ ⟨rfl, rfl, rfl, rfl, trivial⟩ ⟨rfl, rfl, rfl, rfl, trivial⟩) ?_
        exact f156_0_l26_pq hB k (by omega) b m (by omega) (by omega) hq hx0
-- LP.buy, from 57 on
def f156_0_j57 (N : Nat) (I : tI) (J : tJ) (x3 : Int32) : Option (Int32 × tI × tJ) :=
  bif xcmp .ne x3 0 then (match f121_0 I J x3 with | (v8, I8, J8) => some (v8, I8, J8)) else (match f122_0 I J 7 with | (v9, I9, J9) => some (v9, I9, J9))
set_option maxRecDepth 100000 in
theorem f156_0_j57_pq {sc : List Int32} {B : xM} {N : Nat} {I : tI} {J : tJ} {x3 : Int32} (hB : kB pT B) : ∀ {X : Option (Int32 × tI × tJ)}, f156_0_j57 N I J x3 = X → pq sc B N (xt_156, 4, 1) 57 [(0, .ref 0), (3, .int x3)] [] I J (fun v I1 J1 => ∃ a, v = some (.int a) ∧ X = some (a, I1, J1)) := by
  intro X hq
  unfold f156_0_j57 at hq
  have hle : N ≤ N := Nat.le_refl N
  refine pq_s hB 1 (pc' := 58) (L' := [(0, .ref 0), (3, .int x3)]) (st' := [.int x3]) (I' := I) (J' := J) (by with_unfolding_all rfl) ?_
  refine pq_ifn hB rfl (fun h7 => ?_) (fun h7 => ?_)
  · rw [h7, cond_true] at hq
    refine pq_s hB 2 (pc' := 72) (L' := [(0, .ref 0), (3, .int x3)]) (st' := [.int x3, .ref 0]) (I' := I) (J' := J) (by with_unfolding_all rfl) ?_
    generalize hc8 : f121_0 I J x3 = q8 at hq
    obtain ⟨v8, _, _⟩ := q8
    dsimp only at hq
    refine pq_1 rfl rfl rfl rfl (f121_0_pq hB hc8) ?_
    rintro _ I8 J8 ⟨rfl, rfl, rfl⟩
    subst hq
    exact pq_2i (x := v8) rfl ⟨_, rfl, rfl⟩
  · rw [h7, cond_false] at hq
    refine pq_s hB 2 (pc' := 64) (L' := [(0, .ref 0), (3, .int x3)]) (st' := [.int 7, .ref 0]) (I' := I) (J' := J) (by with_unfolding_all rfl) ?_
    generalize hc9 : f122_0 I J 7 = q9 at hq
    obtain ⟨v9, _, _⟩ := q9
    dsimp only at hq
    refine pq_1 rfl rfl rfl rfl (f122_0_pq hB hc9) ?_
    rintro _ I9 J9 ⟨rfl, rfl, rfl⟩
    refine pq_s hB 1 (pc' := 75) (L' := [(0, .ref 0), (3, .int x3)]) (st' := [.int v9]) (I' := I9) (J' := J9) (by with_unfolding_all rfl) ?_
    subst hq
    exact pq_2i (x := v9) rfl ⟨_, rfl, rfl⟩
-- LP.buy
def f156_0 (N : Nat) (I : tI) (J : tJ) (a0 : Int32) (a1 : Int32) : Option (Int32 × tI × tJ) :=
  (match f131_0 I J a0 with | (v1, I1, J1) => bif xcmp .eq v1 0 then (match f122_0 I1 J1 1 with | (v3, I3, J3) => some (v3, I3, J3)) else (match f127 I1 J1 a1 1 99 with | (v4, I4, J4) => bif xcmp .ne v4 0 then (match f156_0_l26 N N I4 J4 a0 a1 0 with | none => none | some (y6_1, y6_2, y6_3, I6, J6) => f156_0_j57 N I6 J6 y6_3) else (match f122_0 I4 J4 1 with | (v7, I7, J7) => some (v7, I7, J7))))
set_option maxRecDepth 100000 in
theorem f156_0_pq {sc : List Int32} {B : xM} {N : Nat} {I : tI} {J : tJ} {a0 : Int32} {a1 : Int32} (hB : kB pT B) : ∀ {X : Option (Int32 × tI × tJ)}, f156_0 N I J a0 a1 = X → pq sc B N (xt_156, 4, 1) 0 [(0, .ref 0), (1, .int a0), (2, .int a1)] [] I J (fun v I1 J1 => ∃ a, v = some (.int a) ∧ X = some (a, I1, J1)) := by
  intro X hq
  unfold f156_0 at hq
  have hle : N ≤ N := Nat.le_refl N
  refine pq_s hB 2 (pc' := 2) (L' := [(0, .ref 0), (1, .int a0), (2, .int a1)]) (st' := [.int a0, .ref 0]) (I' := I) (J' := J) (by with_unfolding_all rfl) ?_
  generalize hc1 : f131_0 I J a0 = q1 at hq
  obtain ⟨v1, _, _⟩ := q1
  dsimp only at hq
  refine pq_1 rfl rfl rfl rfl (f131_0_pq hB hc1) ?_
  rintro _ I1 J1 ⟨rfl, rfl, rfl⟩
  refine pq_ifn hB rfl (fun h2 => ?_) (fun h2 => ?_)
  · rw [h2, cond_true] at hq
    refine pq_s hB 2 (pc' := 20) (L' := [(0, .ref 0), (1, .int a0), (2, .int a1)]) (st' := [.int 1, .ref 0]) (I' := I1) (J' := J1) (by with_unfolding_all rfl) ?_
    generalize hc3 : f122_0 I1 J1 1 = q3 at hq
    obtain ⟨v3, _, _⟩ := q3
    dsimp only at hq
    refine pq_1 rfl rfl rfl rfl (f122_0_pq hB hc3) ?_
    rintro _ I3 J3 ⟨rfl, rfl, rfl⟩
    subst hq
    exact pq_2i (x := v3) rfl ⟨_, rfl, rfl⟩
  · rw [h2, cond_false] at hq
    refine pq_s hB 3 (pc' := 12) (L' := [(0, .ref 0), (1, .int a0), (2, .int a1)]) (st' := [.int 99, .int 1, .int a1]) (I' := I1) (J' := J1) (by with_unfolding_all rfl) ?_
    generalize hc4 : f127 I1 J1 a1 1 99 = q4 at hq
    obtain ⟨v4, _, _⟩ := q4
    dsimp only at hq
    refine pq_1 rfl rfl rfl rfl (f127_pq hB hc4) ?_
    rintro _ I4 J4 ⟨rfl, rfl, rfl⟩
    refine pq_ifn hB rfl (fun h5 => ?_) (fun h5 => ?_)
    · rw [h5, cond_true] at hq
      refine pq_s hB 2 (pc' := 26) (L' := [(3, .int 0), (0, .ref 0), (1, .int a0), (2, .int a1)]) (st' := []) (I' := I4) (J' := J4) (by with_unfolding_all rfl) ?_
      refine pq_perm (L := [(0, .ref 0), (1, .int a0), (2, .int a1), (3, .int 0)]) (leqn_of ⟨rfl, rfl, rfl, rfl, trivial⟩ ⟨rfl, rfl, rfl, rfl, trivial⟩ ⟨rfl, rfl, rfl, rfl, trivial⟩) ?_
      refine f156_0_l26_pq hB N (Nat.le_refl N) N N hle (Nat.le_refl N) rfl ?_
      intro y6_1 y6_2 y6_3 I6 J6 hc6
      rw [hc6] at hq
      dsimp only at hq
      refine pq_perm (L := [(0, .ref 0), (3, .int y6_3)]) (leqn_of ⟨rfl, rfl, trivial⟩ ⟨rfl, rfl, trivial⟩ ⟨rfl, rfl, rfl, rfl, trivial⟩) ?_
      exact f156_0_j57_pq hB hq
    · rw [h5, cond_false] at hq
      refine pq_s hB 2 (pc' := 20) (L' := [(0, .ref 0), (1, .int a0), (2, .int a1)]) (st' := [.int 1, .ref 0]) (I' := I4) (J' := J4) (by with_unfolding_all rfl) ?_
      generalize hc7 : f122_0 I4 J4 1 = q7 at hq
      obtain ⟨v7, _, _⟩ := q7
      dsimp only at hq
      refine pq_1 rfl rfl rfl rfl (f122_0_pq hB hc7) ?_
      rintro _ I7 J7 ⟨rfl, rfl, rfl⟩
      subst hq
      exact pq_2i (x := v7) rfl ⟨_, rfl, rfl⟩
-- LP.skip, the loop at 35, to [54]
def f157_0_l35 (N : Nat) : Nat → tI → tJ → Int32 → Int32 → Option (Int32 × Int32 × tI × tJ)
  | 0, _, _, _, _ => none
  | k + 1, I, J, x1, x2 =>
    bif xcmp .ge x2 x1 then some (x1, x2, I, J) else (match f110_10 N I J (-1) with | none => none | some (_, I6, J6) => f157_0_l35 N k I6 J6 x1 (x2 + 1))
set_option maxRecDepth 100000 in
theorem f157_0_l35_pq {sc : List Int32} {B : xM} {N : Nat} {P : Option Value → tI → tJ → Prop} (hB : kB pT B) : ∀ (k : Nat), k ≤ N → ∀ (b m : Nat), b ≤ k → b ≤ m → ∀ {I : tI} {J : tJ} {x1 : Int32} {x2 : Int32} {Y : Option (Int32 × Int32 × tI × tJ)}, f157_0_l35 N k I J x1 x2 = Y → (∀ {y1 : Int32} {y2 : Int32} {I1 : tI} {J1 : tJ}, Y = some (y1, y2, I1, J1) → pq sc B m (xt_157, 3, 1) 54 [(0, .ref 0), (1, .int y1), (2, .int y2)] [] I1 J1 P) → pq sc B b (xt_157, 3, 1) 35 [(0, .ref 0), (1, .int x1), (2, .int x2)] [] I J P
  | 0, _, b, _, hb, _, _, _, _, _, _, _, _ => by
    have e : b = 0 := by omega
    subst e
    exact pq_zero
  | _ + 1, _, 0, _, _, _, _, _, _, _, _, _, _ => pq_zero
  | k + 1, hk, b + 1, m, hb, hm, I, J, x1, x2, Y, hq, hx0 => by
    unfold f157_0_l35 at hq
    have hle : b ≤ N := by omega
    refine pq_s1 hB 1 (pc' := 37) (L' := [(0, .ref 0), (1, .int x1), (2, .int x2)]) (st' := [.int x1, .int x2]) (I' := I) (J' := J) (by with_unfolding_all rfl) ?_
    refine pq_icn hB rfl (fun h5 => ?_) (fun h5 => ?_)
    · rw [h5, cond_true] at hq
      exact pq_le (by omega) (hx0 hq.symm)
    · rw [h5, cond_false] at hq
      refine pq_s hB 3 (pc' := 45) (L' := [(0, .ref 0), (1, .int x1), (2, .int x2)]) (st' := [.int (-1), .ref 10]) (I' := I) (J' := J) (by with_unfolding_all rfl) ?_
      refine pq_1 rfl rfl rfl rfl (pq_le hle (f110_10_pq hB rfl)) ?_
      rintro _ I6 J6 ⟨rfl, hc6⟩
      rw [hc6] at hq
      dsimp only at hq
      refine pq_s hB 2 (pc' := 35) (L' := [(2, .int (x2 + 1)), (0, .ref 0), (1, .int x1)]) (st' := []) (I' := I6) (J' := J6) (by with_unfolding_all rfl) ?_
      refine pq_perm (L := [(0, .ref 0), (1, .int x1), (2, .int (x2 + 1))]) (leqn_of ⟨rfl, rfl, rfl, trivial⟩ ⟨rfl, rfl, rfl, trivial⟩ ⟨rfl, rfl, rfl, trivial⟩) ?_
      exact f157_0_l35_pq hB k (by omega) b m (by omega) (by omega) hq hx0
-- LP.skip
def f157_0 (N : Nat) (I : tI) (J : tJ) (a0 : Int32) : Option (Int32 × tI × tJ) :=
  (match f127 I J a0 1 99 with | (v1, I1, J1) => bif xcmp .ne v1 0 then (match f108_10 I1 J1 a0 with | (v3, I3, J3) => bif xcmp .ne v3 0 then (match f157_0_l35 N N I3 J3 a0 0 with | none => none | some (y5_1, y5_2, I5, J5) => (match f121_0 I5 J5 (I5 12 1) with | (v6, I6, J6) => some (v6, I6, J6))) else (match f122_0 I3 J3 4 with | (v7, I7, J7) => some (v7, I7, J7))) else (match f122_0 I1 J1 1 with | (v8, I8, J8) => some (v8, I8, J8)))
set_option maxRecDepth 100000 in
theorem f157_0_pq {sc : List Int32} {B : xM} {N : Nat} {I : tI} {J : tJ} {a0 : Int32} (hB : kB pT B) : ∀ {X : Option (Int32 × tI × tJ)}, f157_0 N I J a0 = X → pq sc B N (xt_157, 3, 1) 0 [(0, .ref 0), (1, .int a0)] [] I J (fun v I1 J1 => ∃ a, v = some (.int a) ∧ X = some (a, I1, J1)) := by
  intro X hq
  unfold f157_0 at hq
  have hle : N ≤ N := Nat.le_refl N
  refine pq_s hB 3 (pc' := 4) (L' := [(0, .ref 0), (1, .int a0)]) (st' := [.int 99, .int 1, .int a0]) (I' := I) (J' := J) (by with_unfolding_all rfl) ?_
  generalize hc1 : f127 I J a0 1 99 = q1 at hq
  obtain ⟨v1, _, _⟩ := q1
  dsimp only at hq
  refine pq_1 rfl rfl rfl rfl (f127_pq hB hc1) ?_
  rintro _ I1 J1 ⟨rfl, rfl, rfl⟩
  refine pq_ifn hB rfl (fun h2 => ?_) (fun h2 => ?_)
  · rw [h2, cond_true] at hq
    refine pq_s hB 3 (pc' := 21) (L' := [(0, .ref 0), (1, .int a0)]) (st' := [.int a0, .ref 10]) (I' := I1) (J' := J1) (by with_unfolding_all rfl) ?_
    generalize hc3 : f108_10 I1 J1 a0 = q3 at hq
    obtain ⟨v3, _, _⟩ := q3
    dsimp only at hq
    refine pq_1 rfl rfl rfl rfl (f108_10_pq hB hc3) ?_
    rintro _ I3 J3 ⟨rfl, rfl, rfl⟩
    refine pq_ifn hB rfl (fun h4 => ?_) (fun h4 => ?_)
    · rw [h4, cond_true] at hq
      refine pq_s hB 2 (pc' := 35) (L' := [(2, .int 0), (0, .ref 0), (1, .int a0)]) (st' := []) (I' := I3) (J' := J3) (by with_unfolding_all rfl) ?_
      refine pq_perm (L := [(0, .ref 0), (1, .int a0), (2, .int 0)]) (leqn_of ⟨rfl, rfl, rfl, trivial⟩ ⟨rfl, rfl, rfl, trivial⟩ ⟨rfl, rfl, rfl, trivial⟩) ?_
      refine f157_0_l35_pq hB N (Nat.le_refl N) N N hle (Nat.le_refl N) rfl ?_
      intro y5_1 y5_2 I5 J5 hc5
      rw [hc5] at hq
      dsimp only at hq
      refine pq_s hB 5 (pc' := 65) (L' := [(0, .ref 0), (1, .int y5_1), (2, .int y5_2)]) (st' := [.int (I5 12 1), .ref 0]) (I' := I5) (J' := J5) (by with_unfolding_all rfl) ?_
      generalize hc6 : f121_0 I5 J5 (I5 12 1) = q6 at hq
      obtain ⟨v6, _, _⟩ := q6
      dsimp only at hq
      refine pq_1 rfl rfl rfl rfl (f121_0_pq hB hc6) ?_
      rintro _ I6 J6 ⟨rfl, rfl, rfl⟩
      subst hq
      exact pq_2i (x := v6) rfl ⟨_, rfl, rfl⟩
    · rw [h4, cond_false] at hq
      refine pq_s hB 2 (pc' := 29) (L' := [(0, .ref 0), (1, .int a0)]) (st' := [.int 4, .ref 0]) (I' := I3) (J' := J3) (by with_unfolding_all rfl) ?_
      generalize hc7 : f122_0 I3 J3 4 = q7 at hq
      obtain ⟨v7, _, _⟩ := q7
      dsimp only at hq
      refine pq_1 rfl rfl rfl rfl (f122_0_pq hB hc7) ?_
      rintro _ I7 J7 ⟨rfl, rfl, rfl⟩
      subst hq
      exact pq_2i (x := v7) rfl ⟨_, rfl, rfl⟩
  · rw [h2, cond_false] at hq
    refine pq_s hB 2 (pc' := 12) (L' := [(0, .ref 0), (1, .int a0)]) (st' := [.int 1, .ref 0]) (I' := I1) (J' := J1) (by with_unfolding_all rfl) ?_
    generalize hc8 : f122_0 I1 J1 1 = q8 at hq
    obtain ⟨v8, _, _⟩ := q8
    dsimp only at hq
    refine pq_1 rfl rfl rfl rfl (f122_0_pq hB hc8) ?_
    rintro _ I8 J8 ⟨rfl, rfl, rfl⟩
    subst hq
    exact pq_2i (x := v8) rfl ⟨_, rfl, rfl⟩
-- LP.isMade
def f132_0 (I : tI) (J : tJ) (a0 : Int32) : Int32 × tI × tJ :=
  (match f127 I J a0 1 (I 12 1) with | (v1, I1, J1) => (v1, I1, J1))
set_option maxRecDepth 100000 in
theorem f132_0_pq {sc : List Int32} {B : xM} {n : Nat} {I : tI} {J : tJ} {a0 : Int32} (hB : kB pT B) : ∀ {q : Int32 × tI × tJ}, f132_0 I J a0 = q → pq sc B n (xt_132, 2, 3) 0 [(0, .ref 0), (1, .int a0)] [] I J (fun v I1 J1 => v = some (.int q.1) ∧ I1 = q.2.1 ∧ J1 = q.2.2) := by
  intro q hq
  unfold f132_0 at hq
  refine pq_s hB 6 (pc' := 12) (L' := [(0, .ref 0), (1, .int a0)]) (st' := [.int (I 12 1), .int 1, .int a0]) (I' := I) (J' := J) (by with_unfolding_all rfl) ?_
  generalize hc1 : f127 I J a0 1 (I 12 1) = q1 at hq
  obtain ⟨v1, _, _⟩ := q1
  dsimp only at hq
  refine pq_1 rfl rfl rfl rfl (f127_pq hB hc1) ?_
  rintro _ I1 J1 ⟨rfl, rfl, rfl⟩
  subst hq
  exact pq_2i (x := v1) rfl ⟨rfl, rfl, rfl⟩
-- LP$World.ownerOf
def f112_10 (I : tI) (J : tJ) (a0 : Int32) : Int32 × tI × tJ :=
  (match f127 I J a0 1 120 with | (v1, I1, J1) => bif xcmp .eq v1 0 then ((-1), I1, J1) else ((I1 33 (a0).toNatClampNeg), I1, J1))
set_option maxRecDepth 100000 in
theorem f112_10_pq {sc : List Int32} {B : xM} {n : Nat} {I : tI} {J : tJ} {a0 : Int32} (hB : kB pT B) : ∀ {q : Int32 × tI × tJ}, f112_10 I J a0 = q → pq sc B n (xt_112, 2, 1) 0 [(0, .ref 10), (1, .int a0)] [] I J (fun v I1 J1 => v = some (.int q.1) ∧ I1 = q.2.1 ∧ J1 = q.2.2) := by
  intro q hq
  unfold f112_10 at hq
  refine pq_s hB 3 (pc' := 4) (L' := [(0, .ref 10), (1, .int a0)]) (st' := [.int 120, .int 1, .int a0]) (I' := I) (J' := J) (by with_unfolding_all rfl) ?_
  generalize hc1 : f127 I J a0 1 120 = q1 at hq
  obtain ⟨v1, _, _⟩ := q1
  dsimp only at hq
  refine pq_1 rfl rfl rfl rfl (f127_pq hB hc1) ?_
  rintro _ I1 J1 ⟨rfl, rfl, rfl⟩
  refine pq_ifn hB rfl (fun h2 => ?_) (fun h2 => ?_)
  · rw [h2, cond_true] at hq
    refine pq_s hB 1 (pc' := 20) (L' := [(0, .ref 10), (1, .int a0)]) (st' := [.int (-1)]) (I' := I1) (J' := J1) (by with_unfolding_all rfl) ?_
    subst hq
    exact pq_2i (x := (-1)) rfl ⟨rfl, rfl, rfl⟩
  · rw [h2, cond_false] at hq
    refine pq_s hB 5 (pc' := 20) (L' := [(0, .ref 10), (1, .int a0)]) (st' := [.int (I1 33 (a0).toNatClampNeg)]) (I' := I1) (J' := J1) (by with_unfolding_all rfl) ?_
    subst hq
    exact pq_2i (x := (I1 33 (a0).toNatClampNeg)) rfl ⟨rfl, rfl, rfl⟩
-- LP.give
def f158_0 (I : tI) (J : tJ) (a0 : Int32) (a1 : Int32) : Int32 × tI × tJ :=
  (match f132_0 I J a0 with | (v1, I1, J1) => bif xcmp .eq v1 0 then (match f122_0 I1 J1 1 with | (v3, I3, J3) => (v3, I3, J3)) else (match f131_0 I1 J1 a1 with | (v4, I4, J4) => bif xcmp .ne v4 0 then (match f112_10 I4 J4 a0 with | (v6, I6, J6) => bif xcmp .eq v6 (-1) then (match f122_0 I6 J6 7 with | (v8, I8, J8) => (v8, I8, J8)) else bif xcmp .ne v6 a1 then (match f111_10 I6 J6 a0 a1 with | (_, I10, J10) => (match f121_0 I10 J10 v6 with | (v11, I11, J11) => (v11, I11, J11))) else (match f122_0 I6 J6 7 with | (v12, I12, J12) => (v12, I12, J12))) else (match f122_0 I4 J4 1 with | (v13, I13, J13) => (v13, I13, J13))))
set_option maxRecDepth 100000 in
theorem f158_0_pq {sc : List Int32} {B : xM} {n : Nat} {I : tI} {J : tJ} {a0 : Int32} {a1 : Int32} (hB : kB pT B) : ∀ {q : Int32 × tI × tJ}, f158_0 I J a0 a1 = q → pq sc B n (xt_158, 4, 1) 0 [(0, .ref 0), (1, .int a0), (2, .int a1)] [] I J (fun v I1 J1 => v = some (.int q.1) ∧ I1 = q.2.1 ∧ J1 = q.2.2) := by
  intro q hq
  unfold f158_0 at hq
  refine pq_s hB 2 (pc' := 2) (L' := [(0, .ref 0), (1, .int a0), (2, .int a1)]) (st' := [.int a0, .ref 0]) (I' := I) (J' := J) (by with_unfolding_all rfl) ?_
  generalize hc1 : f132_0 I J a0 = q1 at hq
  obtain ⟨v1, _, _⟩ := q1
  dsimp only at hq
  refine pq_1 rfl rfl rfl rfl (f132_0_pq hB hc1) ?_
  rintro _ I1 J1 ⟨rfl, rfl, rfl⟩
  refine pq_ifn hB rfl (fun h2 => ?_) (fun h2 => ?_)
  · rw [h2, cond_true] at hq
    refine pq_s hB 2 (pc' := 18) (L' := [(0, .ref 0), (1, .int a0), (2, .int a1)]) (st' := [.int 1, .ref 0]) (I' := I1) (J' := J1) (by with_unfolding_all rfl) ?_
    generalize hc3 : f122_0 I1 J1 1 = q3 at hq
    obtain ⟨v3, _, _⟩ := q3
    dsimp only at hq
    refine pq_1 rfl rfl rfl rfl (f122_0_pq hB hc3) ?_
    rintro _ I3 J3 ⟨rfl, rfl, rfl⟩
    subst hq
    exact pq_2i (x := v3) rfl ⟨rfl, rfl, rfl⟩
  · rw [h2, cond_false] at hq
    refine pq_s hB 2 (pc' := 10) (L' := [(0, .ref 0), (1, .int a0), (2, .int a1)]) (st' := [.int a1, .ref 0]) (I' := I1) (J' := J1) (by with_unfolding_all rfl) ?_
    generalize hc4 : f131_0 I1 J1 a1 = q4 at hq
    obtain ⟨v4, _, _⟩ := q4
    dsimp only at hq
    refine pq_1 rfl rfl rfl rfl (f131_0_pq hB hc4) ?_
    rintro _ I4 J4 ⟨rfl, rfl, rfl⟩
    refine pq_ifn hB rfl (fun h5 => ?_) (fun h5 => ?_)
    · rw [h5, cond_true] at hq
      refine pq_s hB 3 (pc' := 27) (L' := [(0, .ref 0), (1, .int a0), (2, .int a1)]) (st' := [.int a0, .ref 10]) (I' := I4) (J' := J4) (by with_unfolding_all rfl) ?_
      generalize hc6 : f112_10 I4 J4 a0 = q6 at hq
      obtain ⟨v6, _, _⟩ := q6
      dsimp only at hq
      refine pq_1 rfl rfl rfl rfl (f112_10_pq hB hc6) ?_
      rintro _ I6 J6 ⟨rfl, rfl, rfl⟩
      refine pq_s hB 3 (pc' := 33) (L' := [(3, .int v6), (0, .ref 0), (1, .int a0), (2, .int a1)]) (st' := [.int (-1), .int v6]) (I' := I6) (J' := J6) (by with_unfolding_all rfl) ?_
      refine pq_icn hB rfl (fun h7 => ?_) (fun h7 => ?_)
      · rw [h7, cond_true] at hq
        refine pq_s hB 2 (pc' := 44) (L' := [(3, .int v6), (0, .ref 0), (1, .int a0), (2, .int a1)]) (st' := [.int 7, .ref 0]) (I' := I6) (J' := J6) (by with_unfolding_all rfl) ?_
        generalize hc8 : f122_0 I6 J6 7 = q8 at hq
        obtain ⟨v8, _, _⟩ := q8
        dsimp only at hq
        refine pq_1 rfl rfl rfl rfl (f122_0_pq hB hc8) ?_
        rintro _ I8 J8 ⟨rfl, rfl, rfl⟩
        subst hq
        exact pq_2i (x := v8) rfl ⟨rfl, rfl, rfl⟩
      · rw [h7, cond_false] at hq
        refine pq_s hB 2 (pc' := 38) (L' := [(3, .int v6), (0, .ref 0), (1, .int a0), (2, .int a1)]) (st' := [.int a1, .int v6]) (I' := I6) (J' := J6) (by with_unfolding_all rfl) ?_
        refine pq_icn hB rfl (fun h9 => ?_) (fun h9 => ?_)
        · rw [h9, cond_true] at hq
          refine pq_s hB 4 (pc' := 54) (L' := [(3, .int v6), (0, .ref 0), (1, .int a0), (2, .int a1)]) (st' := [.int a1, .int a0, .ref 10]) (I' := I6) (J' := J6) (by with_unfolding_all rfl) ?_
          generalize hc10 : f111_10 I6 J6 a0 a1 = q10 at hq
          obtain ⟨v10, _, _⟩ := q10
          dsimp only at hq
          refine pq_1 rfl rfl rfl rfl (f111_10_pq hB hc10) ?_
          rintro _ I10 J10 ⟨rfl, rfl, rfl⟩
          refine pq_s hB 2 (pc' := 59) (L' := [(3, .int v6), (0, .ref 0), (1, .int a0), (2, .int a1)]) (st' := [.int v6, .ref 0]) (I' := I10) (J' := J10) (by with_unfolding_all rfl) ?_
          generalize hc11 : f121_0 I10 J10 v6 = q11 at hq
          obtain ⟨v11, _, _⟩ := q11
          dsimp only at hq
          refine pq_1 rfl rfl rfl rfl (f121_0_pq hB hc11) ?_
          rintro _ I11 J11 ⟨rfl, rfl, rfl⟩
          subst hq
          exact pq_2i (x := v11) rfl ⟨rfl, rfl, rfl⟩
        · rw [h9, cond_false] at hq
          refine pq_s hB 2 (pc' := 44) (L' := [(3, .int v6), (0, .ref 0), (1, .int a0), (2, .int a1)]) (st' := [.int 7, .ref 0]) (I' := I6) (J' := J6) (by with_unfolding_all rfl) ?_
          generalize hc12 : f122_0 I6 J6 7 = q12 at hq
          obtain ⟨v12, _, _⟩ := q12
          dsimp only at hq
          refine pq_1 rfl rfl rfl rfl (f122_0_pq hB hc12) ?_
          rintro _ I12 J12 ⟨rfl, rfl, rfl⟩
          subst hq
          exact pq_2i (x := v12) rfl ⟨rfl, rfl, rfl⟩
    · rw [h5, cond_false] at hq
      refine pq_s hB 2 (pc' := 18) (L' := [(0, .ref 0), (1, .int a0), (2, .int a1)]) (st' := [.int 1, .ref 0]) (I' := I4) (J' := J4) (by with_unfolding_all rfl) ?_
      generalize hc13 : f122_0 I4 J4 1 = q13 at hq
      obtain ⟨v13, _, _⟩ := q13
      dsimp only at hq
      refine pq_1 rfl rfl rfl rfl (f122_0_pq hB hc13) ?_
      rintro _ I13 J13 ⟨rfl, rfl, rfl⟩
      subst hq
      exact pq_2i (x := v13) rfl ⟨rfl, rfl, rfl⟩
-- LP.back
def f159_0 (I : tI) (J : tJ) (a0 : Int32) (a1 : Int32) : Int32 × tI × tJ :=
  (match f131_0 I J a0 with | (v1, I1, J1) => bif xcmp .eq v1 0 then (match f122_0 I1 J1 1 with | (v3, I3, J3) => (v3, I3, J3)) else (match f132_0 I1 J1 a1 with | (v4, I4, J4) => bif xcmp .ne v4 0 then (match f112_10 I4 J4 a1 with | (v6, I6, J6) => bif xcmp .eq v6 a0 then (match f111_10 I6 J6 a1 (-1) with | (_, I8, J8) => (match f106_10 I8 J8 a1 with | (v9, I9, J9) => (match f121_0 (tup I9 32 ((a0).toNatClampNeg) (if 9999 < ((I8 32 (a0).toNatClampNeg) + (v9 / 2)) then 9999 else ((I8 32 (a0).toNatClampNeg) + (v9 / 2)))) J9 ((tup I9 32 ((a0).toNatClampNeg) (if 9999 < ((I8 32 (a0).toNatClampNeg) + (v9 / 2)) then 9999 else ((I8 32 (a0).toNatClampNeg) + (v9 / 2)))) 32 ((a0).toNatClampNeg)) with | (v10, I10, J10) => (v10, I10, J10)))) else (match f122_0 I6 J6 7 with | (v11, I11, J11) => (v11, I11, J11))) else (match f122_0 I4 J4 1 with | (v12, I12, J12) => (v12, I12, J12))))
set_option maxRecDepth 100000 in
theorem f159_0_pq {sc : List Int32} {B : xM} {n : Nat} {I : tI} {J : tJ} {a0 : Int32} {a1 : Int32} (hB : kB pT B) : ∀ {q : Int32 × tI × tJ}, f159_0 I J a0 a1 = q → pq sc B n (xt_159, 4, 1) 0 [(0, .ref 0), (1, .int a0), (2, .int a1)] [] I J (fun v I1 J1 => v = some (.int q.1) ∧ I1 = q.2.1 ∧ J1 = q.2.2) := by
  intro q hq
  unfold f159_0 at hq
  refine pq_s hB 2 (pc' := 2) (L' := [(0, .ref 0), (1, .int a0), (2, .int a1)]) (st' := [.int a0, .ref 0]) (I' := I) (J' := J) (by with_unfolding_all rfl) ?_
  generalize hc1 : f131_0 I J a0 = q1 at hq
  obtain ⟨v1, _, _⟩ := q1
  dsimp only at hq
  refine pq_1 rfl rfl rfl rfl (f131_0_pq hB hc1) ?_
  rintro _ I1 J1 ⟨rfl, rfl, rfl⟩
  refine pq_ifn hB rfl (fun h2 => ?_) (fun h2 => ?_)
  · rw [h2, cond_true] at hq
    refine pq_s hB 2 (pc' := 18) (L' := [(0, .ref 0), (1, .int a0), (2, .int a1)]) (st' := [.int 1, .ref 0]) (I' := I1) (J' := J1) (by with_unfolding_all rfl) ?_
    generalize hc3 : f122_0 I1 J1 1 = q3 at hq
    obtain ⟨v3, _, _⟩ := q3
    dsimp only at hq
    refine pq_1 rfl rfl rfl rfl (f122_0_pq hB hc3) ?_
    rintro _ I3 J3 ⟨rfl, rfl, rfl⟩
    subst hq
    exact pq_2i (x := v3) rfl ⟨rfl, rfl, rfl⟩
  · rw [h2, cond_false] at hq
    refine pq_s hB 2 (pc' := 10) (L' := [(0, .ref 0), (1, .int a0), (2, .int a1)]) (st' := [.int a1, .ref 0]) (I' := I1) (J' := J1) (by with_unfolding_all rfl) ?_
    generalize hc4 : f132_0 I1 J1 a1 = q4 at hq
    obtain ⟨v4, _, _⟩ := q4
    dsimp only at hq
    refine pq_1 rfl rfl rfl rfl (f132_0_pq hB hc4) ?_
    rintro _ I4 J4 ⟨rfl, rfl, rfl⟩
    refine pq_ifn hB rfl (fun h5 => ?_) (fun h5 => ?_)
    · rw [h5, cond_true] at hq
      refine pq_s hB 3 (pc' := 27) (L' := [(0, .ref 0), (1, .int a0), (2, .int a1)]) (st' := [.int a1, .ref 10]) (I' := I4) (J' := J4) (by with_unfolding_all rfl) ?_
      generalize hc6 : f112_10 I4 J4 a1 = q6 at hq
      obtain ⟨v6, _, _⟩ := q6
      dsimp only at hq
      refine pq_1 rfl rfl rfl rfl (f112_10_pq hB hc6) ?_
      rintro _ I6 J6 ⟨rfl, rfl, rfl⟩
      refine pq_s hB 1 (pc' := 31) (L' := [(0, .ref 0), (1, .int a0), (2, .int a1)]) (st' := [.int a0, .int v6]) (I' := I6) (J' := J6) (by with_unfolding_all rfl) ?_
      refine pq_icn hB rfl (fun h7 => ?_) (fun h7 => ?_)
      · rw [h7, cond_true] at hq
        refine pq_s hB 4 (pc' := 47) (L' := [(0, .ref 0), (1, .int a0), (2, .int a1)]) (st' := [.int (-1), .int a1, .ref 10]) (I' := I6) (J' := J6) (by with_unfolding_all rfl) ?_
        generalize hc8 : f111_10 I6 J6 a1 (-1) = q8 at hq
        obtain ⟨v8, _, _⟩ := q8
        dsimp only at hq
        refine pq_1 rfl rfl rfl rfl (f111_10_pq hB hc8) ?_
        rintro _ I8 J8 ⟨rfl, rfl, rfl⟩
        refine pq_s hB 8 (pc' := 64) (L' := [(0, .ref 0), (1, .int a0), (2, .int a1)]) (st' := [.int a1, .ref 10, .int (I8 32 (a0).toNatClampNeg)]) (I' := I8) (J' := J8) (by with_unfolding_all rfl) ?_
        generalize hc9 : f106_10 I8 J8 a1 = q9 at hq
        obtain ⟨v9, _, _⟩ := q9
        dsimp only at hq
        refine pq_1 rfl rfl rfl rfl (f106_10_pq hB hc9) ?_
        rintro _ I9 J9 ⟨rfl, rfl, rfl⟩
        refine pq_s hB 18 (pc' := 97) (L' := [(3, .int ((I8 32 (a0).toNatClampNeg) + (v9 / 2))), (0, .ref 0), (1, .int a0), (2, .int a1)]) (st' := [.int ((tup I9 32 ((a0).toNatClampNeg) (if 9999 < ((I8 32 (a0).toNatClampNeg) + (v9 / 2)) then 9999 else ((I8 32 (a0).toNatClampNeg) + (v9 / 2)))) 32 ((a0).toNatClampNeg)), .ref 0]) (I' := (tup I9 32 ((a0).toNatClampNeg) (if 9999 < ((I8 32 (a0).toNatClampNeg) + (v9 / 2)) then 9999 else ((I8 32 (a0).toNatClampNeg) + (v9 / 2))))) (J' := J9) (by with_unfolding_all rfl) ?_
        generalize hc10 : f121_0 (tup I9 32 ((a0).toNatClampNeg) (if 9999 < ((I8 32 (a0).toNatClampNeg) + (v9 / 2)) then 9999 else ((I8 32 (a0).toNatClampNeg) + (v9 / 2)))) J9 ((tup I9 32 ((a0).toNatClampNeg) (if 9999 < ((I8 32 (a0).toNatClampNeg) + (v9 / 2)) then 9999 else ((I8 32 (a0).toNatClampNeg) + (v9 / 2)))) 32 ((a0).toNatClampNeg)) = q10 at hq
        obtain ⟨v10, _, _⟩ := q10
        dsimp only at hq
        refine pq_1 rfl rfl rfl rfl (f121_0_pq hB hc10) ?_
        rintro _ I10 J10 ⟨rfl, rfl, rfl⟩
        subst hq
        exact pq_2i (x := v10) rfl ⟨rfl, rfl, rfl⟩
      · rw [h7, cond_false] at hq
        refine pq_s hB 2 (pc' := 37) (L' := [(0, .ref 0), (1, .int a0), (2, .int a1)]) (st' := [.int 7, .ref 0]) (I' := I6) (J' := J6) (by with_unfolding_all rfl) ?_
        generalize hc11 : f122_0 I6 J6 7 = q11 at hq
        obtain ⟨v11, _, _⟩ := q11
        dsimp only at hq
        refine pq_1 rfl rfl rfl rfl (f122_0_pq hB hc11) ?_
        rintro _ I11 J11 ⟨rfl, rfl, rfl⟩
        subst hq
        exact pq_2i (x := v11) rfl ⟨rfl, rfl, rfl⟩
    · rw [h5, cond_false] at hq
      refine pq_s hB 2 (pc' := 18) (L' := [(0, .ref 0), (1, .int a0), (2, .int a1)]) (st' := [.int 1, .ref 0]) (I' := I4) (J' := J4) (by with_unfolding_all rfl) ?_
      generalize hc12 : f122_0 I4 J4 1 = q12 at hq
      obtain ⟨v12, _, _⟩ := q12
      dsimp only at hq
      refine pq_1 rfl rfl rfl rfl (f122_0_pq hB hc12) ?_
      rintro _ I12 J12 ⟨rfl, rfl, rfl⟩
      subst hq
      exact pq_2i (x := v12) rfl ⟨rfl, rfl, rfl⟩
-- LP.earn
def f160_0 (I : tI) (J : tJ) (a0 : Int32) (a1 : Int32) : Int32 × tI × tJ :=
  (match f131_0 I J a0 with | (v1, I1, J1) => bif xcmp .eq v1 0 then (match f122_0 I1 J1 1 with | (v3, I3, J3) => (v3, I3, J3)) else (match f127 I1 J1 a1 1 999 with | (v4, I4, J4) => bif xcmp .ne v4 0 then (bif xcmp .le ((I4 32 (a0).toNatClampNeg) + a1) 9999 then (match f121_0 (tup I4 32 ((a0).toNatClampNeg) ((I4 32 (a0).toNatClampNeg) + a1)) J4 ((tup I4 32 ((a0).toNatClampNeg) ((I4 32 (a0).toNatClampNeg) + a1)) 32 ((a0).toNatClampNeg)) with | (v7, I7, J7) => (v7, I7, J7)) else (match f122_0 I4 J4 7 with | (v8, I8, J8) => (v8, I8, J8))) else (match f122_0 I4 J4 1 with | (v9, I9, J9) => (v9, I9, J9))))
set_option maxRecDepth 100000 in
theorem f160_0_pq {sc : List Int32} {B : xM} {n : Nat} {I : tI} {J : tJ} {a0 : Int32} {a1 : Int32} (hB : kB pT B) : ∀ {q : Int32 × tI × tJ}, f160_0 I J a0 a1 = q → pq sc B n (xt_160, 3, 1) 0 [(0, .ref 0), (1, .int a0), (2, .int a1)] [] I J (fun v I1 J1 => v = some (.int q.1) ∧ I1 = q.2.1 ∧ J1 = q.2.2) := by
  intro q hq
  unfold f160_0 at hq
  refine pq_s hB 2 (pc' := 2) (L' := [(0, .ref 0), (1, .int a0), (2, .int a1)]) (st' := [.int a0, .ref 0]) (I' := I) (J' := J) (by with_unfolding_all rfl) ?_
  generalize hc1 : f131_0 I J a0 = q1 at hq
  obtain ⟨v1, _, _⟩ := q1
  dsimp only at hq
  refine pq_1 rfl rfl rfl rfl (f131_0_pq hB hc1) ?_
  rintro _ I1 J1 ⟨rfl, rfl, rfl⟩
  refine pq_ifn hB rfl (fun h2 => ?_) (fun h2 => ?_)
  · rw [h2, cond_true] at hq
    refine pq_s hB 2 (pc' := 21) (L' := [(0, .ref 0), (1, .int a0), (2, .int a1)]) (st' := [.int 1, .ref 0]) (I' := I1) (J' := J1) (by with_unfolding_all rfl) ?_
    generalize hc3 : f122_0 I1 J1 1 = q3 at hq
    obtain ⟨v3, _, _⟩ := q3
    dsimp only at hq
    refine pq_1 rfl rfl rfl rfl (f122_0_pq hB hc3) ?_
    rintro _ I3 J3 ⟨rfl, rfl, rfl⟩
    subst hq
    exact pq_2i (x := v3) rfl ⟨rfl, rfl, rfl⟩
  · rw [h2, cond_false] at hq
    refine pq_s hB 3 (pc' := 13) (L' := [(0, .ref 0), (1, .int a0), (2, .int a1)]) (st' := [.int 999, .int 1, .int a1]) (I' := I1) (J' := J1) (by with_unfolding_all rfl) ?_
    generalize hc4 : f127 I1 J1 a1 1 999 = q4 at hq
    obtain ⟨v4, _, _⟩ := q4
    dsimp only at hq
    refine pq_1 rfl rfl rfl rfl (f127_pq hB hc4) ?_
    rintro _ I4 J4 ⟨rfl, rfl, rfl⟩
    refine pq_ifn hB rfl (fun h5 => ?_) (fun h5 => ?_)
    · rw [h5, cond_true] at hq
      refine pq_s hB 8 (pc' := 39) (L' := [(0, .ref 0), (1, .int a0), (2, .int a1)]) (st' := [.int 9999, .int ((I4 32 (a0).toNatClampNeg) + a1)]) (I' := I4) (J' := J4) (by with_unfolding_all rfl) ?_
      refine pq_icn hB rfl (fun h6 => ?_) (fun h6 => ?_)
      · rw [h6, cond_true] at hq
        refine pq_s hB 15 (pc' := 72) (L' := [(0, .ref 0), (1, .int a0), (2, .int a1)]) (st' := [.int ((tup I4 32 ((a0).toNatClampNeg) ((I4 32 (a0).toNatClampNeg) + a1)) 32 ((a0).toNatClampNeg)), .ref 0]) (I' := (tup I4 32 ((a0).toNatClampNeg) ((I4 32 (a0).toNatClampNeg) + a1))) (J' := J4) (by with_unfolding_all rfl) ?_
        generalize hc7 : f121_0 (tup I4 32 ((a0).toNatClampNeg) ((I4 32 (a0).toNatClampNeg) + a1)) J4 ((tup I4 32 ((a0).toNatClampNeg) ((I4 32 (a0).toNatClampNeg) + a1)) 32 ((a0).toNatClampNeg)) = q7 at hq
        obtain ⟨v7, _, _⟩ := q7
        dsimp only at hq
        refine pq_1 rfl rfl rfl rfl (f121_0_pq hB hc7) ?_
        rintro _ I7 J7 ⟨rfl, rfl, rfl⟩
        subst hq
        exact pq_2i (x := v7) rfl ⟨rfl, rfl, rfl⟩
      · rw [h6, cond_false] at hq
        refine pq_s hB 2 (pc' := 45) (L' := [(0, .ref 0), (1, .int a0), (2, .int a1)]) (st' := [.int 7, .ref 0]) (I' := I4) (J' := J4) (by with_unfolding_all rfl) ?_
        generalize hc8 : f122_0 I4 J4 7 = q8 at hq
        obtain ⟨v8, _, _⟩ := q8
        dsimp only at hq
        refine pq_1 rfl rfl rfl rfl (f122_0_pq hB hc8) ?_
        rintro _ I8 J8 ⟨rfl, rfl, rfl⟩
        subst hq
        exact pq_2i (x := v8) rfl ⟨rfl, rfl, rfl⟩
    · rw [h5, cond_false] at hq
      refine pq_s hB 2 (pc' := 21) (L' := [(0, .ref 0), (1, .int a0), (2, .int a1)]) (st' := [.int 1, .ref 0]) (I' := I4) (J' := J4) (by with_unfolding_all rfl) ?_
      generalize hc9 : f122_0 I4 J4 1 = q9 at hq
      obtain ⟨v9, _, _⟩ := q9
      dsimp only at hq
      refine pq_1 rfl rfl rfl rfl (f122_0_pq hB hc9) ?_
      rintro _ I9 J9 ⟨rfl, rfl, rfl⟩
      subst hq
      exact pq_2i (x := v9) rfl ⟨rfl, rfl, rfl⟩
-- LP$Room.hasCell
def f46_11 (I : tI) (J : tJ) (a0 : Int32) (a1 : Int32) : Int32 × tI × tJ :=
  bif xcmp .lt a0 0 then (0, I, J) else bif xcmp .ge a0 (I 11 0) then (0, I, J) else bif xcmp .lt a1 0 then (0, I, J) else bif xcmp .ge a1 (I 11 1) then (0, I, J) else (1, I, J)
set_option maxRecDepth 100000 in
theorem f46_11_pq {sc : List Int32} {B : xM} {n : Nat} {I : tI} {J : tJ} {a0 : Int32} {a1 : Int32} (hB : kB pT B) : ∀ {q : Int32 × tI × tJ}, f46_11 I J a0 a1 = q → pq sc B n (xt_46, 3, 3) 0 [(0, .ref 11), (1, .int a0), (2, .int a1)] [] I J (fun v I1 J1 => v = some (.int q.1) ∧ I1 = q.2.1 ∧ J1 = q.2.2) := by
  intro q hq
  unfold f46_11 at hq
  refine pq_s hB 1 (pc' := 1) (L' := [(0, .ref 11), (1, .int a0), (2, .int a1)]) (st' := [.int a0]) (I' := I) (J' := J) (by with_unfolding_all rfl) ?_
  refine pq_ifn hB rfl (fun h1 => ?_) (fun h1 => ?_)
  · rw [h1, cond_true] at hq
    refine pq_s hB 1 (pc' := 29) (L' := [(0, .ref 11), (1, .int a0), (2, .int a1)]) (st' := [.int 0]) (I' := I) (J' := J) (by with_unfolding_all rfl) ?_
    subst hq
    exact pq_2i (x := 0) rfl ⟨rfl, rfl, rfl⟩
  · rw [h1, cond_false] at hq
    refine pq_s hB 3 (pc' := 9) (L' := [(0, .ref 11), (1, .int a0), (2, .int a1)]) (st' := [.int (I 11 0), .int a0]) (I' := I) (J' := J) (by with_unfolding_all rfl) ?_
    refine pq_icn hB rfl (fun h2 => ?_) (fun h2 => ?_)
    · rw [h2, cond_true] at hq
      refine pq_s hB 1 (pc' := 29) (L' := [(0, .ref 11), (1, .int a0), (2, .int a1)]) (st' := [.int 0]) (I' := I) (J' := J) (by with_unfolding_all rfl) ?_
      subst hq
      exact pq_2i (x := 0) rfl ⟨rfl, rfl, rfl⟩
    · rw [h2, cond_false] at hq
      refine pq_s hB 1 (pc' := 13) (L' := [(0, .ref 11), (1, .int a0), (2, .int a1)]) (st' := [.int a1]) (I' := I) (J' := J) (by with_unfolding_all rfl) ?_
      refine pq_ifn hB rfl (fun h3 => ?_) (fun h3 => ?_)
      · rw [h3, cond_true] at hq
        refine pq_s hB 1 (pc' := 29) (L' := [(0, .ref 11), (1, .int a0), (2, .int a1)]) (st' := [.int 0]) (I' := I) (J' := J) (by with_unfolding_all rfl) ?_
        subst hq
        exact pq_2i (x := 0) rfl ⟨rfl, rfl, rfl⟩
      · rw [h3, cond_false] at hq
        refine pq_s hB 3 (pc' := 21) (L' := [(0, .ref 11), (1, .int a0), (2, .int a1)]) (st' := [.int (I 11 1), .int a1]) (I' := I) (J' := J) (by with_unfolding_all rfl) ?_
        refine pq_icn hB rfl (fun h4 => ?_) (fun h4 => ?_)
        · rw [h4, cond_true] at hq
          refine pq_s hB 1 (pc' := 29) (L' := [(0, .ref 11), (1, .int a0), (2, .int a1)]) (st' := [.int 0]) (I' := I) (J' := J) (by with_unfolding_all rfl) ?_
          subst hq
          exact pq_2i (x := 0) rfl ⟨rfl, rfl, rfl⟩
        · rw [h4, cond_false] at hq
          refine pq_s hB 2 (pc' := 29) (L' := [(0, .ref 11), (1, .int a0), (2, .int a1)]) (st' := [.int 1]) (I' := I) (J' := J) (by with_unfolding_all rfl) ?_
          subst hq
          exact pq_2i (x := 1) rfl ⟨rfl, rfl, rfl⟩
-- LP$Room.isWall
def f47_11 (I : tI) (J : tJ) (a0 : Int32) : Int32 × tI × tJ :=
  bif xcmp .eq (lg_cmp (((((J 11 2)).toUInt64 >>> ((Int32.toInt64 (a0)).toUInt64 &&& Int64.toUInt64 63)).toInt64) &&& 1) 0) 0 then (0, I, J) else (1, I, J)
set_option maxRecDepth 100000 in
theorem f47_11_pq {sc : List Int32} {B : xM} {n : Nat} {I : tI} {J : tJ} {a0 : Int32} (hB : kB pT B) : ∀ {q : Int32 × tI × tJ}, f47_11 I J a0 = q → pq sc B n (xt_47, 2, 3) 0 [(0, .ref 11), (1, .int a0)] [] I J (fun v I1 J1 => v = some (.int q.1) ∧ I1 = q.2.1 ∧ J1 = q.2.2) := by
  intro q hq
  unfold f47_11 at hq
  refine pq_s hB 8 (pc' := 10) (L' := [(0, .ref 11), (1, .int a0)]) (st' := [.int (lg_cmp (((((J 11 2)).toUInt64 >>> ((Int32.toInt64 (a0)).toUInt64 &&& Int64.toUInt64 63)).toInt64) &&& 1) 0)]) (I' := I) (J' := J) (by with_unfolding_all rfl) ?_
  refine pq_ifn hB rfl (fun h1 => ?_) (fun h1 => ?_)
  · rw [h1, cond_true] at hq
    refine pq_s hB 1 (pc' := 18) (L' := [(0, .ref 11), (1, .int a0)]) (st' := [.int 0]) (I' := I) (J' := J) (by with_unfolding_all rfl) ?_
    subst hq
    exact pq_2i (x := 0) rfl ⟨rfl, rfl, rfl⟩
  · rw [h1, cond_false] at hq
    refine pq_s hB 2 (pc' := 18) (L' := [(0, .ref 11), (1, .int a0)]) (st' := [.int 1]) (I' := I) (J' := J) (by with_unfolding_all rfl) ?_
    subst hq
    exact pq_2i (x := 1) rfl ⟨rfl, rfl, rfl⟩
-- LP$Folk.cellNow
def f12_12 (I : tI) (J : tJ) (a0 : Int32) : Int32 × tI × tJ :=
  bif xcmp .ne (I 19 (a0).toNatClampNeg) 1 then ((-1), I, J) else ((I 20 (a0).toNatClampNeg), I, J)
set_option maxRecDepth 100000 in
theorem f12_12_pq {sc : List Int32} {B : xM} {n : Nat} {I : tI} {J : tJ} {a0 : Int32} (hB : kB pT B) : ∀ {q : Int32 × tI × tJ}, f12_12 I J a0 = q → pq sc B n (xt_12, 2, 1) 0 [(0, .ref 12), (1, .int a0)] [] I J (fun v I1 J1 => v = some (.int q.1) ∧ I1 = q.2.1 ∧ J1 = q.2.2) := by
  intro q hq
  unfold f12_12 at hq
  refine pq_s hB 5 (pc' := 7) (L' := [(0, .ref 12), (1, .int a0)]) (st' := [.int 1, .int (I 19 (a0).toNatClampNeg)]) (I' := I) (J' := J) (by with_unfolding_all rfl) ?_
  refine pq_icn hB rfl (fun h1 => ?_) (fun h1 => ?_)
  · rw [h1, cond_true] at hq
    refine pq_s hB 1 (pc' := 20) (L' := [(0, .ref 12), (1, .int a0)]) (st' := [.int (-1)]) (I' := I) (J' := J) (by with_unfolding_all rfl) ?_
    subst hq
    exact pq_2i (x := (-1)) rfl ⟨rfl, rfl, rfl⟩
  · rw [h1, cond_false] at hq
    refine pq_s hB 5 (pc' := 20) (L' := [(0, .ref 12), (1, .int a0)]) (st' := [.int (I 20 (a0).toNatClampNeg)]) (I' := I) (J' := J) (by with_unfolding_all rfl) ?_
    subst hq
    exact pq_2i (x := (I 20 (a0).toNatClampNeg)) rfl ⟨rfl, rfl, rfl⟩
-- LP$Folk.standing, the loop at 2, to [27, 19]
def f13_12_l2 (N : Nat) : Nat → tI → tJ → Int32 → Int32 → Option (Nat × Int32 × Int32 × tI × tJ)
  | 0, _, _, _, _ => none
  | k + 1, I, J, x1, x2 =>
    bif xcmp .ge x2 (I 12 0) then some (0, x1, x2, I, J) else (match f12_12 I J x2 with | (v2, I2, J2) => bif xcmp .ne v2 x1 then f13_12_l2 N k I2 J2 x1 (x2 + 1) else some (1, x1, x2, I2, J2))
set_option maxRecDepth 100000 in
theorem f13_12_l2_pq {sc : List Int32} {B : xM} {N : Nat} {P : Option Value → tI → tJ → Prop} (hB : kB pT B) : ∀ (k : Nat), k ≤ N → ∀ (b m : Nat), b ≤ k → b ≤ m → ∀ {I : tI} {J : tJ} {x1 : Int32} {x2 : Int32} {Y : Option (Nat × Int32 × Int32 × tI × tJ)}, f13_12_l2 N k I J x1 x2 = Y → (∀ {y1 : Int32} {y2 : Int32} {I1 : tI} {J1 : tJ}, Y = some (0, y1, y2, I1, J1) → pq sc B m (xt_13, 3, 1) 27 [(0, .ref 12), (1, .int y1), (2, .int y2)] [] I1 J1 P) → (∀ {y1 : Int32} {y2 : Int32} {I1 : tI} {J1 : tJ}, Y = some (1, y1, y2, I1, J1) → pq sc B m (xt_13, 3, 1) 19 [(0, .ref 12), (1, .int y1), (2, .int y2)] [] I1 J1 P) → pq sc B b (xt_13, 3, 1) 2 [(0, .ref 12), (1, .int x1), (2, .int x2)] [] I J P
  | 0, _, b, _, hb, _, _, _, _, _, _, _, _, _ => by
    have e : b = 0 := by omega
    subst e
    exact pq_zero
  | _ + 1, _, 0, _, _, _, _, _, _, _, _, _, _, _ => pq_zero
  | k + 1, hk, b + 1, m, hb, hm, I, J, x1, x2, Y, hq, hx0, hx1 => by
    unfold f13_12_l2 at hq
    have hle : b ≤ N := by omega
    refine pq_s1 hB 2 (pc' := 7) (L' := [(0, .ref 12), (1, .int x1), (2, .int x2)]) (st' := [.int (I 12 0), .int x2]) (I' := I) (J' := J) (by with_unfolding_all rfl) ?_
    refine pq_icn hB rfl (fun h1 => ?_) (fun h1 => ?_)
    · rw [h1, cond_true] at hq
      exact pq_le (by omega) (hx0 hq.symm)
    · rw [h1, cond_false] at hq
      refine pq_s hB 2 (pc' := 12) (L' := [(0, .ref 12), (1, .int x1), (2, .int x2)]) (st' := [.int x2, .ref 12]) (I' := I) (J' := J) (by with_unfolding_all rfl) ?_
      generalize hc2 : f12_12 I J x2 = q2 at hq
      obtain ⟨v2, _, _⟩ := q2
      dsimp only at hq
      refine pq_1 rfl rfl rfl rfl (f12_12_pq hB hc2) ?_
      rintro _ I2 J2 ⟨rfl, rfl, rfl⟩
      refine pq_s hB 1 (pc' := 16) (L' := [(0, .ref 12), (1, .int x1), (2, .int x2)]) (st' := [.int x1, .int v2]) (I' := I2) (J' := J2) (by with_unfolding_all rfl) ?_
      refine pq_icn hB rfl (fun h3 => ?_) (fun h3 => ?_)
      · rw [h3, cond_true] at hq
        refine pq_s hB 2 (pc' := 2) (L' := [(2, .int (x2 + 1)), (0, .ref 12), (1, .int x1)]) (st' := []) (I' := I2) (J' := J2) (by with_unfolding_all rfl) ?_
        refine pq_perm (L := [(0, .ref 12), (1, .int x1), (2, .int (x2 + 1))]) (leqn_of ⟨rfl, rfl, rfl, trivial⟩ ⟨rfl, rfl, rfl, trivial⟩ ⟨rfl, rfl, rfl, trivial⟩) ?_
        exact f13_12_l2_pq hB k (by omega) b m (by omega) (by omega) hq hx0 hx1
      · rw [h3, cond_false] at hq
        exact pq_le (by omega) (hx1 hq.symm)
-- LP$Folk.standing
def f13_12 (N : Nat) (I : tI) (J : tJ) (a0 : Int32) : Option (Int32 × tI × tJ) :=
  (match f13_12_l2 N N I J a0 0 with | none => none | some (k1, y1_1, y1_2, I1, J1) => bif Nat.beq k1 0 then (some ((-1), I1, J1)) else some (y1_2, I1, J1))
set_option maxRecDepth 100000 in
theorem f13_12_pq {sc : List Int32} {B : xM} {N : Nat} {I : tI} {J : tJ} {a0 : Int32} (hB : kB pT B) : ∀ {X : Option (Int32 × tI × tJ)}, f13_12 N I J a0 = X → pq sc B N (xt_13, 3, 1) 0 [(0, .ref 12), (1, .int a0)] [] I J (fun v I1 J1 => ∃ a, v = some (.int a) ∧ X = some (a, I1, J1)) := by
  intro X hq
  unfold f13_12 at hq
  have hle : N ≤ N := Nat.le_refl N
  refine pq_s hB 2 (pc' := 2) (L' := [(2, .int 0), (0, .ref 12), (1, .int a0)]) (st' := []) (I' := I) (J' := J) (by with_unfolding_all rfl) ?_
  refine pq_perm (L := [(0, .ref 12), (1, .int a0), (2, .int 0)]) (leqn_of ⟨rfl, rfl, rfl, trivial⟩ ⟨rfl, rfl, rfl, trivial⟩ ⟨rfl, rfl, rfl, trivial⟩) ?_
  refine f13_12_l2_pq hB N (Nat.le_refl N) N N hle (Nat.le_refl N) rfl ?_ ?_
  ·
    intro y1_1 y1_2 I1 J1 hc1
    rw [hc1] at hq
    dsimp only at hq
    rw [show Nat.beq 0 0 = true from rfl, cond_true] at hq
    refine pq_s hB 1 (pc' := 28) (L' := [(0, .ref 12), (1, .int y1_1), (2, .int y1_2)]) (st' := [.int (-1)]) (I' := I1) (J' := J1) (by with_unfolding_all rfl) ?_
    subst hq
    exact pq_2i (x := (-1)) rfl ⟨_, rfl, rfl⟩
  ·
    intro y1_1 y1_2 I1 J1 hc1
    rw [hc1] at hq
    dsimp only at hq
    rw [show Nat.beq 1 0 = false from rfl, cond_false] at hq
    refine pq_s hB 1 (pc' := 20) (L' := [(0, .ref 12), (1, .int y1_1), (2, .int y1_2)]) (st' := [.int y1_2]) (I' := I1) (J' := J1) (by with_unfolding_all rfl) ?_
    subst hq
    exact pq_2i (x := y1_2) rfl ⟨_, rfl, rfl⟩
-- LP.build
def f162_0 (N : Nat) (I : tI) (J : tJ) (a0 : Int32) (a1 : Int32) (a2 : Int32) : Option (Int32 × tI × tJ) :=
  (match f46_11 I J a0 a1 with | (v1, I1, J1) => bif xcmp .ne v1 0 then (match f43 I1 J1 a0 a1 with | (v3, I3, J3) => (match f47_11 I3 J3 v3 with | (v4, I4, J4) => bif xcmp .eq v4 a2 then (match f124_0 I4 J4 7 with | (v6, I6, J6) => some (v6, I6, J6)) else (match f13_12 N I4 J4 v3 with | none => none | some (v7, I7, J7) => bif xcmp .eq v7 (-1) then (match f123_0 I7 (tup J7 11 2 ((J7 11 2) ^^^ (1 <<< ((Int32.toInt64 (v3)) &&& 63)))) with | (v9, I9, J9) => some (v9, I9, J9)) else (match f124_0 I7 J7 7 with | (v10, I10, J10) => some (v10, I10, J10))))) else (match f124_0 I1 J1 1 with | (v11, I11, J11) => some (v11, I11, J11)))
set_option maxRecDepth 100000 in
theorem f162_0_pq {sc : List Int32} {B : xM} {N : Nat} {I : tI} {J : tJ} {a0 : Int32} {a1 : Int32} {a2 : Int32} (hB : kB pT B) : ∀ {X : Option (Int32 × tI × tJ)}, f162_0 N I J a0 a1 a2 = X → pq sc B N (xt_162, 5, 3) 0 [(0, .ref 0), (1, .int a0), (2, .int a1), (3, .int a2)] [] I J (fun v I1 J1 => ∃ a, v = some (.int a) ∧ X = some (a, I1, J1)) := by
  intro X hq
  unfold f162_0 at hq
  have hle : N ≤ N := Nat.le_refl N
  refine pq_s hB 5 (pc' := 9) (L' := [(0, .ref 0), (1, .int a0), (2, .int a1), (3, .int a2)]) (st' := [.int a1, .int a0, .ref 11]) (I' := I) (J' := J) (by with_unfolding_all rfl) ?_
  generalize hc1 : f46_11 I J a0 a1 = q1 at hq
  obtain ⟨v1, _, _⟩ := q1
  dsimp only at hq
  refine pq_1 rfl rfl rfl rfl (f46_11_pq hB hc1) ?_
  rintro _ I1 J1 ⟨rfl, rfl, rfl⟩
  refine pq_ifn hB rfl (fun h2 => ?_) (fun h2 => ?_)
  · rw [h2, cond_true] at hq
    refine pq_s hB 2 (pc' := 23) (L' := [(0, .ref 0), (1, .int a0), (2, .int a1), (3, .int a2)]) (st' := [.int a1, .int a0]) (I' := I1) (J' := J1) (by with_unfolding_all rfl) ?_
    generalize hc3 : f43 I1 J1 a0 a1 = q3 at hq
    obtain ⟨v3, _, _⟩ := q3
    dsimp only at hq
    refine pq_1 rfl rfl rfl rfl (f43_pq hB hc3) ?_
    rintro _ I3 J3 ⟨rfl, rfl, rfl⟩
    refine pq_s hB 5 (pc' := 37) (L' := [(4, .int v3), (0, .ref 0), (1, .int a0), (2, .int a1), (3, .int a2)]) (st' := [.int v3, .ref 11]) (I' := I3) (J' := J3) (by with_unfolding_all rfl) ?_
    generalize hc4 : f47_11 I3 J3 v3 = q4 at hq
    obtain ⟨v4, _, _⟩ := q4
    dsimp only at hq
    refine pq_1 rfl rfl rfl rfl (f47_11_pq hB hc4) ?_
    rintro _ I4 J4 ⟨rfl, rfl, rfl⟩
    refine pq_s hB 1 (pc' := 41) (L' := [(4, .int v3), (0, .ref 0), (1, .int a0), (2, .int a1), (3, .int a2)]) (st' := [.int a2, .int v4]) (I' := I4) (J' := J4) (by with_unfolding_all rfl) ?_
    refine pq_icn hB rfl (fun h5 => ?_) (fun h5 => ?_)
    · rw [h5, cond_true] at hq
      refine pq_s hB 2 (pc' := 63) (L' := [(4, .int v3), (0, .ref 0), (1, .int a0), (2, .int a1), (3, .int a2)]) (st' := [.int 7, .ref 0]) (I' := I4) (J' := J4) (by with_unfolding_all rfl) ?_
      generalize hc6 : f124_0 I4 J4 7 = q6 at hq
      obtain ⟨v6, _, _⟩ := q6
      dsimp only at hq
      refine pq_1 rfl rfl rfl rfl (f124_0_pq hB hc6) ?_
      rintro _ I6 J6 ⟨rfl, rfl, rfl⟩
      subst hq
      exact pq_2i (x := v6) rfl ⟨_, rfl, rfl⟩
    · rw [h5, cond_false] at hq
      refine pq_s hB 4 (pc' := 53) (L' := [(4, .int v3), (0, .ref 0), (1, .int a0), (2, .int a1), (3, .int a2)]) (st' := [.int v3, .ref 12]) (I' := I4) (J' := J4) (by with_unfolding_all rfl) ?_
      refine pq_1 rfl rfl rfl rfl (pq_le hle (f13_12_pq hB rfl)) ?_
      rintro _ I7 J7 ⟨v7, rfl, hc7⟩
      rw [hc7] at hq
      dsimp only at hq
      refine pq_s hB 1 (pc' := 57) (L' := [(4, .int v3), (0, .ref 0), (1, .int a0), (2, .int a1), (3, .int a2)]) (st' := [.int (-1), .int v7]) (I' := I7) (J' := J7) (by with_unfolding_all rfl) ?_
      refine pq_icn hB rfl (fun h8 => ?_) (fun h8 => ?_)
      · rw [h8, cond_true] at hq
        refine pq_s hB 11 (pc' := 87) (L' := [(4, .int v3), (0, .ref 0), (1, .int a0), (2, .int a1), (3, .int a2)]) (st' := [.ref 0]) (I' := I7) (J' := (tup J7 11 2 ((J7 11 2) ^^^ (1 <<< ((Int32.toInt64 (v3)) &&& 63))))) (by with_unfolding_all rfl) ?_
        generalize hc9 : f123_0 I7 (tup J7 11 2 ((J7 11 2) ^^^ (1 <<< ((Int32.toInt64 (v3)) &&& 63)))) = q9 at hq
        obtain ⟨v9, _, _⟩ := q9
        dsimp only at hq
        refine pq_1 rfl rfl rfl rfl (f123_0_pq hB hc9) ?_
        rintro _ I9 J9 ⟨rfl, rfl, rfl⟩
        subst hq
        exact pq_2i (x := v9) rfl ⟨_, rfl, rfl⟩
      · rw [h8, cond_false] at hq
        refine pq_s hB 2 (pc' := 63) (L' := [(4, .int v3), (0, .ref 0), (1, .int a0), (2, .int a1), (3, .int a2)]) (st' := [.int 7, .ref 0]) (I' := I7) (J' := J7) (by with_unfolding_all rfl) ?_
        generalize hc10 : f124_0 I7 J7 7 = q10 at hq
        obtain ⟨v10, _, _⟩ := q10
        dsimp only at hq
        refine pq_1 rfl rfl rfl rfl (f124_0_pq hB hc10) ?_
        rintro _ I10 J10 ⟨rfl, rfl, rfl⟩
        subst hq
        exact pq_2i (x := v10) rfl ⟨_, rfl, rfl⟩
  · rw [h2, cond_false] at hq
    refine pq_s hB 2 (pc' := 17) (L' := [(0, .ref 0), (1, .int a0), (2, .int a1), (3, .int a2)]) (st' := [.int 1, .ref 0]) (I' := I1) (J' := J1) (by with_unfolding_all rfl) ?_
    generalize hc11 : f124_0 I1 J1 1 = q11 at hq
    obtain ⟨v11, _, _⟩ := q11
    dsimp only at hq
    refine pq_1 rfl rfl rfl rfl (f124_0_pq hB hc11) ?_
    rintro _ I11 J11 ⟨rfl, rfl, rfl⟩
    subst hq
    exact pq_2i (x := v11) rfl ⟨_, rfl, rfl⟩
-- LP.place
def f164_0 (N : Nat) (I : tI) (J : tJ) (a0 : Int32) (a1 : Int32) (a2 : Int32) : Option (Int32 × tI × tJ) :=
  (match f128_0 I J a0 with | (v1, I1, J1) => bif xcmp .eq v1 0 then (match f124_0 I1 J1 1 with | (v3, I3, J3) => some (v3, I3, J3)) else (match f46_11 I1 J1 a1 a2 with | (v4, I4, J4) => bif xcmp .ne v4 0 then (match f43 I4 J4 a1 a2 with | (v6, I6, J6) => (match f12_12 I6 J6 a0 with | (v7, I7, J7) => bif xcmp .eq v7 (-1) then (match f124_0 I7 J7 7 with | (v9, I9, J9) => some (v9, I9, J9)) else (match f14_12_11 N I7 J7 v6 with | none => none | some (v10, I10, J10) => bif xcmp .ne v10 0 then (match f123_0 (tup I10 20 ((a0).toNatClampNeg) v6) J10 with | (v12, I12, J12) => some (v12, I12, J12)) else (match f124_0 I10 J10 7 with | (v13, I13, J13) => some (v13, I13, J13))))) else (match f124_0 I4 J4 1 with | (v14, I14, J14) => some (v14, I14, J14))))
set_option maxRecDepth 100000 in
theorem f164_0_pq {sc : List Int32} {B : xM} {N : Nat} {I : tI} {J : tJ} {a0 : Int32} {a1 : Int32} {a2 : Int32} (hB : kB pT B) : ∀ {X : Option (Int32 × tI × tJ)}, f164_0 N I J a0 a1 a2 = X → pq sc B N (xt_164, 5, 3) 0 [(0, .ref 0), (1, .int a0), (2, .int a1), (3, .int a2)] [] I J (fun v I1 J1 => ∃ a, v = some (.int a) ∧ X = some (a, I1, J1)) := by
  intro X hq
  unfold f164_0 at hq
  have hle : N ≤ N := Nat.le_refl N
  refine pq_s hB 2 (pc' := 2) (L' := [(0, .ref 0), (1, .int a0), (2, .int a1), (3, .int a2)]) (st' := [.int a0, .ref 0]) (I' := I) (J' := J) (by with_unfolding_all rfl) ?_
  generalize hc1 : f128_0 I J a0 = q1 at hq
  obtain ⟨v1, _, _⟩ := q1
  dsimp only at hq
  refine pq_1 rfl rfl rfl rfl (f128_0_pq hB hc1) ?_
  rintro _ I1 J1 ⟨rfl, rfl, rfl⟩
  refine pq_ifn hB rfl (fun h2 => ?_) (fun h2 => ?_)
  · rw [h2, cond_true] at hq
    refine pq_s hB 2 (pc' := 25) (L' := [(0, .ref 0), (1, .int a0), (2, .int a1), (3, .int a2)]) (st' := [.int 1, .ref 0]) (I' := I1) (J' := J1) (by with_unfolding_all rfl) ?_
    generalize hc3 : f124_0 I1 J1 1 = q3 at hq
    obtain ⟨v3, _, _⟩ := q3
    dsimp only at hq
    refine pq_1 rfl rfl rfl rfl (f124_0_pq hB hc3) ?_
    rintro _ I3 J3 ⟨rfl, rfl, rfl⟩
    subst hq
    exact pq_2i (x := v3) rfl ⟨_, rfl, rfl⟩
  · rw [h2, cond_false] at hq
    refine pq_s hB 5 (pc' := 17) (L' := [(0, .ref 0), (1, .int a0), (2, .int a1), (3, .int a2)]) (st' := [.int a2, .int a1, .ref 11]) (I' := I1) (J' := J1) (by with_unfolding_all rfl) ?_
    generalize hc4 : f46_11 I1 J1 a1 a2 = q4 at hq
    obtain ⟨v4, _, _⟩ := q4
    dsimp only at hq
    refine pq_1 rfl rfl rfl rfl (f46_11_pq hB hc4) ?_
    rintro _ I4 J4 ⟨rfl, rfl, rfl⟩
    refine pq_ifn hB rfl (fun h5 => ?_) (fun h5 => ?_)
    · rw [h5, cond_true] at hq
      refine pq_s hB 2 (pc' := 31) (L' := [(0, .ref 0), (1, .int a0), (2, .int a1), (3, .int a2)]) (st' := [.int a2, .int a1]) (I' := I4) (J' := J4) (by with_unfolding_all rfl) ?_
      generalize hc6 : f43 I4 J4 a1 a2 = q6 at hq
      obtain ⟨v6, _, _⟩ := q6
      dsimp only at hq
      refine pq_1 rfl rfl rfl rfl (f43_pq hB hc6) ?_
      rintro _ I6 J6 ⟨rfl, rfl, rfl⟩
      refine pq_s hB 5 (pc' := 44) (L' := [(4, .int v6), (0, .ref 0), (1, .int a0), (2, .int a1), (3, .int a2)]) (st' := [.int a0, .ref 12]) (I' := I6) (J' := J6) (by with_unfolding_all rfl) ?_
      generalize hc7 : f12_12 I6 J6 a0 = q7 at hq
      obtain ⟨v7, _, _⟩ := q7
      dsimp only at hq
      refine pq_1 rfl rfl rfl rfl (f12_12_pq hB hc7) ?_
      rintro _ I7 J7 ⟨rfl, rfl, rfl⟩
      refine pq_s hB 1 (pc' := 48) (L' := [(4, .int v6), (0, .ref 0), (1, .int a0), (2, .int a1), (3, .int a2)]) (st' := [.int (-1), .int v7]) (I' := I7) (J' := J7) (by with_unfolding_all rfl) ?_
      refine pq_icn hB rfl (fun h8 => ?_) (fun h8 => ?_)
      · rw [h8, cond_true] at hq
        refine pq_s hB 2 (pc' := 76) (L' := [(4, .int v6), (0, .ref 0), (1, .int a0), (2, .int a1), (3, .int a2)]) (st' := [.int 7, .ref 0]) (I' := I7) (J' := J7) (by with_unfolding_all rfl) ?_
        generalize hc9 : f124_0 I7 J7 7 = q9 at hq
        obtain ⟨v9, _, _⟩ := q9
        dsimp only at hq
        refine pq_1 rfl rfl rfl rfl (f124_0_pq hB hc9) ?_
        rintro _ I9 J9 ⟨rfl, rfl, rfl⟩
        subst hq
        exact pq_2i (x := v9) rfl ⟨_, rfl, rfl⟩
      · rw [h8, cond_false] at hq
        refine pq_s hB 7 (pc' := 67) (L' := [(4, .int v6), (0, .ref 0), (1, .int a0), (2, .int a1), (3, .int a2)]) (st' := [.ref 11, .int v6, .ref 12]) (I' := I7) (J' := J7) (by with_unfolding_all rfl) ?_
        refine pq_1 rfl rfl rfl rfl (pq_le hle (f14_12_11_pq hB rfl)) ?_
        rintro _ I10 J10 ⟨v10, rfl, hc10⟩
        rw [hc10] at hq
        dsimp only at hq
        refine pq_ifn hB rfl (fun h11 => ?_) (fun h11 => ?_)
        · rw [h11, cond_true] at hq
          refine pq_s hB 8 (pc' := 95) (L' := [(4, .int v6), (0, .ref 0), (1, .int a0), (2, .int a1), (3, .int a2)]) (st' := [.ref 0]) (I' := (tup I10 20 ((a0).toNatClampNeg) v6)) (J' := J10) (by with_unfolding_all rfl) ?_
          generalize hc12 : f123_0 (tup I10 20 ((a0).toNatClampNeg) v6) J10 = q12 at hq
          obtain ⟨v12, _, _⟩ := q12
          dsimp only at hq
          refine pq_1 rfl rfl rfl rfl (f123_0_pq hB hc12) ?_
          rintro _ I12 J12 ⟨rfl, rfl, rfl⟩
          subst hq
          exact pq_2i (x := v12) rfl ⟨_, rfl, rfl⟩
        · rw [h11, cond_false] at hq
          refine pq_s hB 2 (pc' := 76) (L' := [(4, .int v6), (0, .ref 0), (1, .int a0), (2, .int a1), (3, .int a2)]) (st' := [.int 7, .ref 0]) (I' := I10) (J' := J10) (by with_unfolding_all rfl) ?_
          generalize hc13 : f124_0 I10 J10 7 = q13 at hq
          obtain ⟨v13, _, _⟩ := q13
          dsimp only at hq
          refine pq_1 rfl rfl rfl rfl (f124_0_pq hB hc13) ?_
          rintro _ I13 J13 ⟨rfl, rfl, rfl⟩
          subst hq
          exact pq_2i (x := v13) rfl ⟨_, rfl, rfl⟩
    · rw [h5, cond_false] at hq
      refine pq_s hB 2 (pc' := 25) (L' := [(0, .ref 0), (1, .int a0), (2, .int a1), (3, .int a2)]) (st' := [.int 1, .ref 0]) (I' := I4) (J' := J4) (by with_unfolding_all rfl) ?_
      generalize hc14 : f124_0 I4 J4 1 = q14 at hq
      obtain ⟨v14, _, _⟩ := q14
      dsimp only at hq
      refine pq_1 rfl rfl rfl rfl (f124_0_pq hB hc14) ?_
      rintro _ I14 J14 ⟨rfl, rfl, rfl⟩
      subst hq
      exact pq_2i (x := v14) rfl ⟨_, rfl, rfl⟩
-- LP.who
def f148_0 (N : Nat) (I : tI) (J : tJ) (a0 : Int32) (a1 : Int32) : Option (Int32 × tI × tJ) :=
  (match f46_11 I J a0 a1 with | (v1, I1, J1) => bif xcmp .ne v1 0 then (match f43 I1 J1 a0 a1 with | (v3, I3, J3) => (match f13_12 N I3 J3 v3 with | none => none | some (v4, I4, J4) => (match f125_0 I4 J4 v4 with | (v5, I5, J5) => some (v5, I5, J5)))) else (match f122_0 I1 J1 1 with | (v6, I6, J6) => some (v6, I6, J6)))
set_option maxRecDepth 100000 in
theorem f148_0_pq {sc : List Int32} {B : xM} {N : Nat} {I : tI} {J : tJ} {a0 : Int32} {a1 : Int32} (hB : kB pT B) : ∀ {X : Option (Int32 × tI × tJ)}, f148_0 N I J a0 a1 = X → pq sc B N (xt_148, 3, 1) 0 [(0, .ref 0), (1, .int a0), (2, .int a1)] [] I J (fun v I1 J1 => ∃ a, v = some (.int a) ∧ X = some (a, I1, J1)) := by
  intro X hq
  unfold f148_0 at hq
  have hle : N ≤ N := Nat.le_refl N
  refine pq_s hB 5 (pc' := 9) (L' := [(0, .ref 0), (1, .int a0), (2, .int a1)]) (st' := [.int a1, .int a0, .ref 11]) (I' := I) (J' := J) (by with_unfolding_all rfl) ?_
  generalize hc1 : f46_11 I J a0 a1 = q1 at hq
  obtain ⟨v1, _, _⟩ := q1
  dsimp only at hq
  refine pq_1 rfl rfl rfl rfl (f46_11_pq hB hc1) ?_
  rintro _ I1 J1 ⟨rfl, rfl, rfl⟩
  refine pq_ifn hB rfl (fun h2 => ?_) (fun h2 => ?_)
  · rw [h2, cond_true] at hq
    refine pq_s hB 6 (pc' := 31) (L' := [(0, .ref 0), (1, .int a0), (2, .int a1)]) (st' := [.int a1, .int a0, .ref 12, .ref 0]) (I' := I1) (J' := J1) (by with_unfolding_all rfl) ?_
    generalize hc3 : f43 I1 J1 a0 a1 = q3 at hq
    obtain ⟨v3, _, _⟩ := q3
    dsimp only at hq
    refine pq_1 rfl rfl rfl rfl (f43_pq hB hc3) ?_
    rintro _ I3 J3 ⟨rfl, rfl, rfl⟩
    refine pq_1 rfl rfl rfl rfl (pq_le hle (f13_12_pq hB rfl)) ?_
    rintro _ I4 J4 ⟨v4, rfl, hc4⟩
    rw [hc4] at hq
    dsimp only at hq
    generalize hc5 : f125_0 I4 J4 v4 = q5 at hq
    obtain ⟨v5, _, _⟩ := q5
    dsimp only at hq
    refine pq_1 rfl rfl rfl rfl (f125_0_pq hB hc5) ?_
    rintro _ I5 J5 ⟨rfl, rfl, rfl⟩
    subst hq
    exact pq_2i (x := v5) rfl ⟨_, rfl, rfl⟩
  · rw [h2, cond_false] at hq
    refine pq_s hB 2 (pc' := 17) (L' := [(0, .ref 0), (1, .int a0), (2, .int a1)]) (st' := [.int 1, .ref 0]) (I' := I1) (J' := J1) (by with_unfolding_all rfl) ?_
    generalize hc6 : f122_0 I1 J1 1 = q6 at hq
    obtain ⟨v6, _, _⟩ := q6
    dsimp only at hq
    refine pq_1 rfl rfl rfl rfl (f122_0_pq hB hc6) ?_
    rintro _ I6 J6 ⟨rfl, rfl, rfl⟩
    subst hq
    exact pq_2i (x := v6) rfl ⟨_, rfl, rfl⟩
-- LP.wall
def f149_0 (I : tI) (J : tJ) (a0 : Int32) (a1 : Int32) : Int32 × tI × tJ :=
  (match f46_11 I J a0 a1 with | (v1, I1, J1) => bif xcmp .ne v1 0 then (match f43 I1 J1 a0 a1 with | (v3, I3, J3) => (match f47_11 I3 J3 v3 with | (v4, I4, J4) => bif xcmp .eq v4 0 then (match f121_0 I4 J4 0 with | (v6, I6, J6) => (v6, I6, J6)) else (match f121_0 I4 J4 1 with | (v7, I7, J7) => (v7, I7, J7)))) else (match f122_0 I1 J1 1 with | (v8, I8, J8) => (v8, I8, J8)))
set_option maxRecDepth 100000 in
theorem f149_0_pq {sc : List Int32} {B : xM} {n : Nat} {I : tI} {J : tJ} {a0 : Int32} {a1 : Int32} (hB : kB pT B) : ∀ {q : Int32 × tI × tJ}, f149_0 I J a0 a1 = q → pq sc B n (xt_149, 3, 1) 0 [(0, .ref 0), (1, .int a0), (2, .int a1)] [] I J (fun v I1 J1 => v = some (.int q.1) ∧ I1 = q.2.1 ∧ J1 = q.2.2) := by
  intro q hq
  unfold f149_0 at hq
  refine pq_s hB 5 (pc' := 9) (L' := [(0, .ref 0), (1, .int a0), (2, .int a1)]) (st' := [.int a1, .int a0, .ref 11]) (I' := I) (J' := J) (by with_unfolding_all rfl) ?_
  generalize hc1 : f46_11 I J a0 a1 = q1 at hq
  obtain ⟨v1, _, _⟩ := q1
  dsimp only at hq
  refine pq_1 rfl rfl rfl rfl (f46_11_pq hB hc1) ?_
  rintro _ I1 J1 ⟨rfl, rfl, rfl⟩
  refine pq_ifn hB rfl (fun h2 => ?_) (fun h2 => ?_)
  · rw [h2, cond_true] at hq
    refine pq_s hB 6 (pc' := 31) (L' := [(0, .ref 0), (1, .int a0), (2, .int a1)]) (st' := [.int a1, .int a0, .ref 11, .ref 0]) (I' := I1) (J' := J1) (by with_unfolding_all rfl) ?_
    generalize hc3 : f43 I1 J1 a0 a1 = q3 at hq
    obtain ⟨v3, _, _⟩ := q3
    dsimp only at hq
    refine pq_1 rfl rfl rfl rfl (f43_pq hB hc3) ?_
    rintro _ I3 J3 ⟨rfl, rfl, rfl⟩
    generalize hc4 : f47_11 I3 J3 v3 = q4 at hq
    obtain ⟨v4, _, _⟩ := q4
    dsimp only at hq
    refine pq_1 rfl rfl rfl rfl (f47_11_pq hB hc4) ?_
    rintro _ I4 J4 ⟨rfl, rfl, rfl⟩
    refine pq_ifn hB rfl (fun h5 => ?_) (fun h5 => ?_)
    · rw [h5, cond_true] at hq
      refine pq_s hB 1 (pc' := 45) (L' := [(0, .ref 0), (1, .int a0), (2, .int a1)]) (st' := [.int 0, .ref 0]) (I' := I4) (J' := J4) (by with_unfolding_all rfl) ?_
      generalize hc6 : f121_0 I4 J4 0 = q6 at hq
      obtain ⟨v6, _, _⟩ := q6
      dsimp only at hq
      refine pq_1 rfl rfl rfl rfl (f121_0_pq hB hc6) ?_
      rintro _ I6 J6 ⟨rfl, rfl, rfl⟩
      subst hq
      exact pq_2i (x := v6) rfl ⟨rfl, rfl, rfl⟩
    · rw [h5, cond_false] at hq
      refine pq_s hB 2 (pc' := 45) (L' := [(0, .ref 0), (1, .int a0), (2, .int a1)]) (st' := [.int 1, .ref 0]) (I' := I4) (J' := J4) (by with_unfolding_all rfl) ?_
      generalize hc7 : f121_0 I4 J4 1 = q7 at hq
      obtain ⟨v7, _, _⟩ := q7
      dsimp only at hq
      refine pq_1 rfl rfl rfl rfl (f121_0_pq hB hc7) ?_
      rintro _ I7 J7 ⟨rfl, rfl, rfl⟩
      subst hq
      exact pq_2i (x := v7) rfl ⟨rfl, rfl, rfl⟩
  · rw [h2, cond_false] at hq
    refine pq_s hB 2 (pc' := 17) (L' := [(0, .ref 0), (1, .int a0), (2, .int a1)]) (st' := [.int 1, .ref 0]) (I' := I1) (J' := J1) (by with_unfolding_all rfl) ?_
    generalize hc8 : f122_0 I1 J1 1 = q8 at hq
    obtain ⟨v8, _, _⟩ := q8
    dsimp only at hq
    refine pq_1 rfl rfl rfl rfl (f122_0_pq hB hc8) ?_
    rintro _ I8 J8 ⟨rfl, rfl, rfl⟩
    subst hq
    exact pq_2i (x := v8) rfl ⟨rfl, rfl, rfl⟩
-- LP$Room.columnOf
def f44 (I : tI) (J : tJ) (a0 : Int32) : Int32 × tI × tJ :=
  ((a0 - a0 / 10 * 10), I, J)
set_option maxRecDepth 100000 in
theorem f44_pq {sc : List Int32} {B : xM} {n : Nat} {I : tI} {J : tJ} {a0 : Int32} (hB : kB pT B) : ∀ {q : Int32 × tI × tJ}, f44 I J a0 = q → pq sc B n (xt_44, 1, 1) 0 [(0, .int a0)] [] I J (fun v I1 J1 => v = some (.int q.1) ∧ I1 = q.2.1 ∧ J1 = q.2.2) := by
  intro q hq
  unfold f44 at hq
  refine pq_s hB 3 (pc' := 4) (L' := [(0, .int a0)]) (st' := [.int (a0 - a0 / 10 * 10)]) (I' := I) (J' := J) (by with_unfolding_all rfl) ?_
  subst hq
  exact pq_2i (x := (a0 - a0 / 10 * 10)) rfl ⟨rfl, rfl, rfl⟩
-- LP$Room.rowOf
def f45 (I : tI) (J : tJ) (a0 : Int32) : Int32 × tI × tJ :=
  ((a0 / 10), I, J)
set_option maxRecDepth 100000 in
theorem f45_pq {sc : List Int32} {B : xM} {n : Nat} {I : tI} {J : tJ} {a0 : Int32} (hB : kB pT B) : ∀ {q : Int32 × tI × tJ}, f45 I J a0 = q → pq sc B n (xt_45, 1, 1) 0 [(0, .int a0)] [] I J (fun v I1 J1 => v = some (.int q.1) ∧ I1 = q.2.1 ∧ J1 = q.2.2) := by
  intro q hq
  unfold f45 at hq
  refine pq_s hB 3 (pc' := 4) (L' := [(0, .int a0)]) (st' := [.int (a0 / 10)]) (I' := I) (J' := J) (by with_unfolding_all rfl) ?_
  subst hq
  exact pq_2i (x := (a0 / 10)) rfl ⟨rfl, rfl, rfl⟩
-- LP.person
def f150_0 (I : tI) (J : tJ) (a0 : Int32) (a1 : Int32) : Int32 × tI × tJ :=
  (match f128_0 I J a0 with | (v1, I1, J1) => bif xcmp .eq v1 0 then (match f122_0 I1 J1 1 with | (v3, I3, J3) => (v3, I3, J3)) else (match f127 I1 J1 a1 0 4 with | (v4, I4, J4) => bif xcmp .ne v4 0 then (match f12_12 I4 J4 a0 with | (v6, I6, J6) => bif xcmp .eq a1 0 then (bif xcmp .ne v6 (-1) then (match f44 I6 J6 v6 with | (v9, I9, J9) => (match f125_0 I9 J9 v9 with | (v10, I10, J10) => (v10, I10, J10))) else (match f125_0 I6 J6 (-1) with | (v11, I11, J11) => (v11, I11, J11))) else bif xcmp .eq a1 1 then (bif xcmp .ne v6 (-1) then (match f45 I6 J6 v6 with | (v14, I14, J14) => (match f125_0 I14 J14 v14 with | (v15, I15, J15) => (v15, I15, J15))) else (match f125_0 I6 J6 (-1) with | (v16, I16, J16) => (v16, I16, J16))) else bif xcmp .eq a1 2 then ((match f121_0 I6 J6 (I6 15 (a0).toNatClampNeg) with | (v18, I18, J18) => (v18, I18, J18))) else bif xcmp .eq a1 3 then ((match f125_0 I6 J6 (I6 16 (a0).toNatClampNeg) with | (v20, I20, J20) => (v20, I20, J20))) else (match f121_0 I6 J6 (I6 17 (a0).toNatClampNeg) with | (v21, I21, J21) => (v21, I21, J21))) else (match f122_0 I4 J4 1 with | (v22, I22, J22) => (v22, I22, J22))))
set_option maxRecDepth 100000 in
theorem f150_0_pq {sc : List Int32} {B : xM} {n : Nat} {I : tI} {J : tJ} {a0 : Int32} {a1 : Int32} (hB : kB pT B) : ∀ {q : Int32 × tI × tJ}, f150_0 I J a0 a1 = q → pq sc B n (xt_150, 5, 1) 0 [(0, .ref 0), (1, .int a0), (2, .int a1)] [] I J (fun v I1 J1 => v = some (.int q.1) ∧ I1 = q.2.1 ∧ J1 = q.2.2) := by
  intro q hq
  unfold f150_0 at hq
  refine pq_s hB 2 (pc' := 2) (L' := [(0, .ref 0), (1, .int a0), (2, .int a1)]) (st' := [.int a0, .ref 0]) (I' := I) (J' := J) (by with_unfolding_all rfl) ?_
  generalize hc1 : f128_0 I J a0 = q1 at hq
  obtain ⟨v1, _, _⟩ := q1
  dsimp only at hq
  refine pq_1 rfl rfl rfl rfl (f128_0_pq hB hc1) ?_
  rintro _ I1 J1 ⟨rfl, rfl, rfl⟩
  refine pq_ifn hB rfl (fun h2 => ?_) (fun h2 => ?_)
  · rw [h2, cond_true] at hq
    refine pq_s hB 2 (pc' := 19) (L' := [(0, .ref 0), (1, .int a0), (2, .int a1)]) (st' := [.int 1, .ref 0]) (I' := I1) (J' := J1) (by with_unfolding_all rfl) ?_
    generalize hc3 : f122_0 I1 J1 1 = q3 at hq
    obtain ⟨v3, _, _⟩ := q3
    dsimp only at hq
    refine pq_1 rfl rfl rfl rfl (f122_0_pq hB hc3) ?_
    rintro _ I3 J3 ⟨rfl, rfl, rfl⟩
    subst hq
    exact pq_2i (x := v3) rfl ⟨rfl, rfl, rfl⟩
  · rw [h2, cond_false] at hq
    refine pq_s hB 3 (pc' := 11) (L' := [(0, .ref 0), (1, .int a0), (2, .int a1)]) (st' := [.int 4, .int 0, .int a1]) (I' := I1) (J' := J1) (by with_unfolding_all rfl) ?_
    generalize hc4 : f127 I1 J1 a1 0 4 = q4 at hq
    obtain ⟨v4, _, _⟩ := q4
    dsimp only at hq
    refine pq_1 rfl rfl rfl rfl (f127_pq hB hc4) ?_
    rintro _ I4 J4 ⟨rfl, rfl, rfl⟩
    refine pq_ifn hB rfl (fun h5 => ?_) (fun h5 => ?_)
    · rw [h5, cond_true] at hq
      refine pq_s hB 6 (pc' := 33) (L' := [(3, .ref 12), (0, .ref 0), (1, .int a0), (2, .int a1)]) (st' := [.int a0, .ref 12]) (I' := I4) (J' := J4) (by with_unfolding_all rfl) ?_
      generalize hc6 : f12_12 I4 J4 a0 = q6 at hq
      obtain ⟨v6, _, _⟩ := q6
      dsimp only at hq
      refine pq_1 rfl rfl rfl rfl (f12_12_pq hB hc6) ?_
      rintro _ I6 J6 ⟨rfl, rfl, rfl⟩
      refine pq_s hB 2 (pc' := 39) (L' := [(4, .int v6), (3, .ref 12), (0, .ref 0), (1, .int a0), (2, .int a1)]) (st' := [.int a1]) (I' := I6) (J' := J6) (by with_unfolding_all rfl) ?_
      cases h7 : xcmp .eq a1 0 with
      | true =>
        rw [h7, cond_true] at hq
        refine pq_tsw_k hB (c := 0) (t := 68) rfl h7 rfl ?_
        refine pq_s hB 3 (pc' := 72) (L' := [(4, .int v6), (3, .ref 12), (0, .ref 0), (1, .int a0), (2, .int a1)]) (st' := [.int (-1), .int v6, .ref 0]) (I' := I6) (J' := J6) (by with_unfolding_all rfl) ?_
        refine pq_icn hB rfl (fun h8 => ?_) (fun h8 => ?_)
        · rw [h8, cond_true] at hq
          refine pq_s hB 1 (pc' := 81) (L' := [(4, .int v6), (3, .ref 12), (0, .ref 0), (1, .int a0), (2, .int a1)]) (st' := [.int v6, .ref 0]) (I' := I6) (J' := J6) (by with_unfolding_all rfl) ?_
          generalize hc9 : f44 I6 J6 v6 = q9 at hq
          obtain ⟨v9, _, _⟩ := q9
          dsimp only at hq
          refine pq_1 rfl rfl rfl rfl (f44_pq hB hc9) ?_
          rintro _ I9 J9 ⟨rfl, rfl, rfl⟩
          generalize hc10 : f125_0 I9 J9 v9 = q10 at hq
          obtain ⟨v10, _, _⟩ := q10
          dsimp only at hq
          refine pq_1 rfl rfl rfl rfl (f125_0_pq hB hc10) ?_
          rintro _ I10 J10 ⟨rfl, rfl, rfl⟩
          subst hq
          exact pq_2i (x := v10) rfl ⟨rfl, rfl, rfl⟩
        · rw [h8, cond_false] at hq
          refine pq_s hB 2 (pc' := 84) (L' := [(4, .int v6), (3, .ref 12), (0, .ref 0), (1, .int a0), (2, .int a1)]) (st' := [.int (-1), .ref 0]) (I' := I6) (J' := J6) (by with_unfolding_all rfl) ?_
          generalize hc11 : f125_0 I6 J6 (-1) = q11 at hq
          obtain ⟨v11, _, _⟩ := q11
          dsimp only at hq
          refine pq_1 rfl rfl rfl rfl (f125_0_pq hB hc11) ?_
          rintro _ I11 J11 ⟨rfl, rfl, rfl⟩
          subst hq
          exact pq_2i (x := v11) rfl ⟨rfl, rfl, rfl⟩
      | false =>
        rw [h7, cond_false] at hq
        cases h12 : xcmp .eq a1 1 with
        | true =>
          rw [h12, cond_true] at hq
          refine pq_tsw_k hB (c := 1) (t := 88) rfl h12 rfl ?_
          refine pq_s hB 3 (pc' := 92) (L' := [(4, .int v6), (3, .ref 12), (0, .ref 0), (1, .int a0), (2, .int a1)]) (st' := [.int (-1), .int v6, .ref 0]) (I' := I6) (J' := J6) (by with_unfolding_all rfl) ?_
          refine pq_icn hB rfl (fun h13 => ?_) (fun h13 => ?_)
          · rw [h13, cond_true] at hq
            refine pq_s hB 1 (pc' := 101) (L' := [(4, .int v6), (3, .ref 12), (0, .ref 0), (1, .int a0), (2, .int a1)]) (st' := [.int v6, .ref 0]) (I' := I6) (J' := J6) (by with_unfolding_all rfl) ?_
            generalize hc14 : f45 I6 J6 v6 = q14 at hq
            obtain ⟨v14, _, _⟩ := q14
            dsimp only at hq
            refine pq_1 rfl rfl rfl rfl (f45_pq hB hc14) ?_
            rintro _ I14 J14 ⟨rfl, rfl, rfl⟩
            generalize hc15 : f125_0 I14 J14 v14 = q15 at hq
            obtain ⟨v15, _, _⟩ := q15
            dsimp only at hq
            refine pq_1 rfl rfl rfl rfl (f125_0_pq hB hc15) ?_
            rintro _ I15 J15 ⟨rfl, rfl, rfl⟩
            subst hq
            exact pq_2i (x := v15) rfl ⟨rfl, rfl, rfl⟩
          · rw [h13, cond_false] at hq
            refine pq_s hB 2 (pc' := 104) (L' := [(4, .int v6), (3, .ref 12), (0, .ref 0), (1, .int a0), (2, .int a1)]) (st' := [.int (-1), .ref 0]) (I' := I6) (J' := J6) (by with_unfolding_all rfl) ?_
            generalize hc16 : f125_0 I6 J6 (-1) = q16 at hq
            obtain ⟨v16, _, _⟩ := q16
            dsimp only at hq
            refine pq_1 rfl rfl rfl rfl (f125_0_pq hB hc16) ?_
            rintro _ I16 J16 ⟨rfl, rfl, rfl⟩
            subst hq
            exact pq_2i (x := v16) rfl ⟨rfl, rfl, rfl⟩
        | false =>
          rw [h12, cond_false] at hq
          cases h17 : xcmp .eq a1 2 with
          | true =>
            rw [h17, cond_true] at hq
            refine pq_tsw_k hB (c := 2) (t := 108) rfl h17 rfl ?_
            refine pq_s hB 5 (pc' := 115) (L' := [(4, .int v6), (3, .ref 12), (0, .ref 0), (1, .int a0), (2, .int a1)]) (st' := [.int (I6 15 (a0).toNatClampNeg), .ref 0]) (I' := I6) (J' := J6) (by with_unfolding_all rfl) ?_
            generalize hc18 : f121_0 I6 J6 (I6 15 (a0).toNatClampNeg) = q18 at hq
            obtain ⟨v18, _, _⟩ := q18
            dsimp only at hq
            refine pq_1 rfl rfl rfl rfl (f121_0_pq hB hc18) ?_
            rintro _ I18 J18 ⟨rfl, rfl, rfl⟩
            subst hq
            exact pq_2i (x := v18) rfl ⟨rfl, rfl, rfl⟩
          | false =>
            rw [h17, cond_false] at hq
            cases h19 : xcmp .eq a1 3 with
            | true =>
              rw [h19, cond_true] at hq
              refine pq_tsw_k hB (c := 3) (t := 119) rfl h19 rfl ?_
              refine pq_s hB 5 (pc' := 126) (L' := [(4, .int v6), (3, .ref 12), (0, .ref 0), (1, .int a0), (2, .int a1)]) (st' := [.int (I6 16 (a0).toNatClampNeg), .ref 0]) (I' := I6) (J' := J6) (by with_unfolding_all rfl) ?_
              generalize hc20 : f125_0 I6 J6 (I6 16 (a0).toNatClampNeg) = q20 at hq
              obtain ⟨v20, _, _⟩ := q20
              dsimp only at hq
              refine pq_1 rfl rfl rfl rfl (f125_0_pq hB hc20) ?_
              rintro _ I20 J20 ⟨rfl, rfl, rfl⟩
              subst hq
              exact pq_2i (x := v20) rfl ⟨rfl, rfl, rfl⟩
            | false =>
              rw [h19, cond_false] at hq
              refine pq_tsw_d hB (cs := [0, 1, 2, 3]) rfl rfl rfl (List.forall_mem_cons.mpr ⟨h7, List.forall_mem_cons.mpr ⟨h12, List.forall_mem_cons.mpr ⟨h17, List.forall_mem_cons.mpr ⟨h19, fun c hc => by cases hc⟩⟩⟩⟩) ?_
              show pq sc B _ _ 130 _ _ _ _ _
              refine pq_s hB 5 (pc' := 137) (L' := [(4, .int v6), (3, .ref 12), (0, .ref 0), (1, .int a0), (2, .int a1)]) (st' := [.int (I6 17 (a0).toNatClampNeg), .ref 0]) (I' := I6) (J' := J6) (by with_unfolding_all rfl) ?_
              generalize hc21 : f121_0 I6 J6 (I6 17 (a0).toNatClampNeg) = q21 at hq
              obtain ⟨v21, _, _⟩ := q21
              dsimp only at hq
              refine pq_1 rfl rfl rfl rfl (f121_0_pq hB hc21) ?_
              rintro _ I21 J21 ⟨rfl, rfl, rfl⟩
              subst hq
              exact pq_2i (x := v21) rfl ⟨rfl, rfl, rfl⟩
    · rw [h5, cond_false] at hq
      refine pq_s hB 2 (pc' := 19) (L' := [(0, .ref 0), (1, .int a0), (2, .int a1)]) (st' := [.int 1, .ref 0]) (I' := I4) (J' := J4) (by with_unfolding_all rfl) ?_
      generalize hc22 : f122_0 I4 J4 1 = q22 at hq
      obtain ⟨v22, _, _⟩ := q22
      dsimp only at hq
      refine pq_1 rfl rfl rfl rfl (f122_0_pq hB hc22) ?_
      rintro _ I22 J22 ⟨rfl, rfl, rfl⟩
      subst hq
      exact pq_2i (x := v22) rfl ⟨rfl, rfl, rfl⟩
-- LP.coins
def f153_0 (I : tI) (J : tJ) (a0 : Int32) : Int32 × tI × tJ :=
  (match f131_0 I J a0 with | (v1, I1, J1) => bif xcmp .eq v1 0 then (match f122_0 I1 J1 1 with | (v3, I3, J3) => (v3, I3, J3)) else (match f121_0 I1 J1 (I1 32 (a0).toNatClampNeg) with | (v4, I4, J4) => (v4, I4, J4)))
set_option maxRecDepth 100000 in
theorem f153_0_pq {sc : List Int32} {B : xM} {n : Nat} {I : tI} {J : tJ} {a0 : Int32} (hB : kB pT B) : ∀ {q : Int32 × tI × tJ}, f153_0 I J a0 = q → pq sc B n (xt_153, 2, 1) 0 [(0, .ref 0), (1, .int a0)] [] I J (fun v I1 J1 => v = some (.int q.1) ∧ I1 = q.2.1 ∧ J1 = q.2.2) := by
  intro q hq
  unfold f153_0 at hq
  refine pq_s hB 2 (pc' := 2) (L' := [(0, .ref 0), (1, .int a0)]) (st' := [.int a0, .ref 0]) (I' := I) (J' := J) (by with_unfolding_all rfl) ?_
  generalize hc1 : f131_0 I J a0 = q1 at hq
  obtain ⟨v1, _, _⟩ := q1
  dsimp only at hq
  refine pq_1 rfl rfl rfl rfl (f131_0_pq hB hc1) ?_
  rintro _ I1 J1 ⟨rfl, rfl, rfl⟩
  refine pq_ifn hB rfl (fun h2 => ?_) (fun h2 => ?_)
  · rw [h2, cond_true] at hq
    refine pq_s hB 2 (pc' := 26) (L' := [(0, .ref 0), (1, .int a0)]) (st' := [.int 1, .ref 0]) (I' := I1) (J' := J1) (by with_unfolding_all rfl) ?_
    generalize hc3 : f122_0 I1 J1 1 = q3 at hq
    obtain ⟨v3, _, _⟩ := q3
    dsimp only at hq
    refine pq_1 rfl rfl rfl rfl (f122_0_pq hB hc3) ?_
    rintro _ I3 J3 ⟨rfl, rfl, rfl⟩
    subst hq
    exact pq_2i (x := v3) rfl ⟨rfl, rfl, rfl⟩
  · rw [h2, cond_false] at hq
    refine pq_s hB 6 (pc' := 18) (L' := [(0, .ref 0), (1, .int a0)]) (st' := [.int (I1 32 (a0).toNatClampNeg), .ref 0]) (I' := I1) (J' := J1) (by with_unfolding_all rfl) ?_
    generalize hc4 : f121_0 I1 J1 (I1 32 (a0).toNatClampNeg) = q4 at hq
    obtain ⟨v4, _, _⟩ := q4
    dsimp only at hq
    refine pq_1 rfl rfl rfl rfl (f121_0_pq hB hc4) ?_
    rintro _ I4 J4 ⟨rfl, rfl, rfl⟩
    refine pq_s hB 1 (pc' := 29) (L' := [(0, .ref 0), (1, .int a0)]) (st' := [.int v4]) (I' := I4) (J' := J4) (by with_unfolding_all rfl) ?_
    subst hq
    exact pq_2i (x := v4) rfl ⟨rfl, rfl, rfl⟩
-- LP.owner
def f154_0 (I : tI) (J : tJ) (a0 : Int32) : Int32 × tI × tJ :=
  (match f132_0 I J a0 with | (v1, I1, J1) => bif xcmp .eq v1 0 then (match f122_0 I1 J1 1 with | (v3, I3, J3) => (v3, I3, J3)) else (match f112_10 I1 J1 a0 with | (v4, I4, J4) => (match f125_0 I4 J4 v4 with | (v5, I5, J5) => (v5, I5, J5))))
set_option maxRecDepth 100000 in
theorem f154_0_pq {sc : List Int32} {B : xM} {n : Nat} {I : tI} {J : tJ} {a0 : Int32} (hB : kB pT B) : ∀ {q : Int32 × tI × tJ}, f154_0 I J a0 = q → pq sc B n (xt_154, 2, 1) 0 [(0, .ref 0), (1, .int a0)] [] I J (fun v I1 J1 => v = some (.int q.1) ∧ I1 = q.2.1 ∧ J1 = q.2.2) := by
  intro q hq
  unfold f154_0 at hq
  refine pq_s hB 2 (pc' := 2) (L' := [(0, .ref 0), (1, .int a0)]) (st' := [.int a0, .ref 0]) (I' := I) (J' := J) (by with_unfolding_all rfl) ?_
  generalize hc1 : f132_0 I J a0 = q1 at hq
  obtain ⟨v1, _, _⟩ := q1
  dsimp only at hq
  refine pq_1 rfl rfl rfl rfl (f132_0_pq hB hc1) ?_
  rintro _ I1 J1 ⟨rfl, rfl, rfl⟩
  refine pq_ifn hB rfl (fun h2 => ?_) (fun h2 => ?_)
  · rw [h2, cond_true] at hq
    refine pq_s hB 2 (pc' := 25) (L' := [(0, .ref 0), (1, .int a0)]) (st' := [.int 1, .ref 0]) (I' := I1) (J' := J1) (by with_unfolding_all rfl) ?_
    generalize hc3 : f122_0 I1 J1 1 = q3 at hq
    obtain ⟨v3, _, _⟩ := q3
    dsimp only at hq
    refine pq_1 rfl rfl rfl rfl (f122_0_pq hB hc3) ?_
    rintro _ I3 J3 ⟨rfl, rfl, rfl⟩
    subst hq
    exact pq_2i (x := v3) rfl ⟨rfl, rfl, rfl⟩
  · rw [h2, cond_false] at hq
    refine pq_s hB 4 (pc' := 14) (L' := [(0, .ref 0), (1, .int a0)]) (st' := [.int a0, .ref 10, .ref 0]) (I' := I1) (J' := J1) (by with_unfolding_all rfl) ?_
    generalize hc4 : f112_10 I1 J1 a0 = q4 at hq
    obtain ⟨v4, _, _⟩ := q4
    dsimp only at hq
    refine pq_1 rfl rfl rfl rfl (f112_10_pq hB hc4) ?_
    rintro _ I4 J4 ⟨rfl, rfl, rfl⟩
    generalize hc5 : f125_0 I4 J4 v4 = q5 at hq
    obtain ⟨v5, _, _⟩ := q5
    dsimp only at hq
    refine pq_1 rfl rfl rfl rfl (f125_0_pq hB hc5) ?_
    rintro _ I5 J5 ⟨rfl, rfl, rfl⟩
    refine pq_s hB 1 (pc' := 28) (L' := [(0, .ref 0), (1, .int a0)]) (st' := [.int v5]) (I' := I5) (J' := J5) (by with_unfolding_all rfl) ?_
    subst hq
    exact pq_2i (x := v5) rfl ⟨rfl, rfl, rfl⟩
-- LP$World.printsOf, the loop at 4, to [29]
def f113_10_l4 (N : Nat) : Nat → tI → tJ → Int32 → Int32 → Int32 → Option (Int32 × Int32 × Int32 × tI × tJ)
  | 0, _, _, _, _, _ => none
  | k + 1, I, J, x1, x2, x3 =>
    bif xcmp .gt x3 120 then some (x1, x2, x3, I, J) else bif xcmp .ne (I 33 (x3).toNatClampNeg) x1 then f113_10_l4 N k I J x1 x2 (x3 + 1) else f113_10_l4 N k I J x1 (x2 + 1) (x3 + 1)
set_option maxRecDepth 100000 in
theorem f113_10_l4_pq {sc : List Int32} {B : xM} {N : Nat} {P : Option Value → tI → tJ → Prop} (hB : kB pT B) : ∀ (k : Nat), k ≤ N → ∀ (b m : Nat), b ≤ k → b ≤ m → ∀ {I : tI} {J : tJ} {x1 : Int32} {x2 : Int32} {x3 : Int32} {Y : Option (Int32 × Int32 × Int32 × tI × tJ)}, f113_10_l4 N k I J x1 x2 x3 = Y → (∀ {y1 : Int32} {y2 : Int32} {y3 : Int32} {I1 : tI} {J1 : tJ}, Y = some (y1, y2, y3, I1, J1) → pq sc B m (xt_113, 4, 1) 29 [(0, .ref 10), (1, .int y1), (2, .int y2), (3, .int y3)] [] I1 J1 P) → pq sc B b (xt_113, 4, 1) 4 [(0, .ref 10), (1, .int x1), (2, .int x2), (3, .int x3)] [] I J P
  | 0, _, b, _, hb, _, _, _, _, _, _, _, _, _ => by
    have e : b = 0 := by omega
    subst e
    exact pq_zero
  | _ + 1, _, 0, _, _, _, _, _, _, _, _, _, _, _ => pq_zero
  | k + 1, hk, b + 1, m, hb, hm, I, J, x1, x2, x3, Y, hq, hx0 => by
    unfold f113_10_l4 at hq
    have hle : b ≤ N := by omega
    refine pq_s1 hB 1 (pc' := 7) (L' := [(0, .ref 10), (1, .int x1), (2, .int x2), (3, .int x3)]) (st' := [.int 120, .int x3]) (I' := I) (J' := J) (by with_unfolding_all rfl) ?_
    refine pq_icn hB rfl (fun h1 => ?_) (fun h1 => ?_)
    · rw [h1, cond_true] at hq
      exact pq_le (by omega) (hx0 hq.symm)
    · rw [h1, cond_false] at hq
      refine pq_s hB 5 (pc' := 17) (L' := [(0, .ref 10), (1, .int x1), (2, .int x2), (3, .int x3)]) (st' := [.int x1, .int (I 33 (x3).toNatClampNeg)]) (I' := I) (J' := J) (by with_unfolding_all rfl) ?_
      refine pq_icn hB rfl (fun h2 => ?_) (fun h2 => ?_)
      · rw [h2, cond_true] at hq
        refine pq_s hB 2 (pc' := 4) (L' := [(3, .int (x3 + 1)), (0, .ref 10), (1, .int x1), (2, .int x2)]) (st' := []) (I' := I) (J' := J) (by with_unfolding_all rfl) ?_
        refine pq_perm (L := [(0, .ref 10), (1, .int x1), (2, .int x2), (3, .int (x3 + 1))]) (leqn_of ⟨rfl, rfl, rfl, rfl, trivial⟩ ⟨rfl, rfl, rfl, rfl, trivial⟩ ⟨rfl, rfl, rfl, rfl, trivial⟩) ?_
        exact f113_10_l4_pq hB k (by omega) b m (by omega) (by omega) hq hx0
      · rw [h2, cond_false] at hq
        refine pq_s hB 3 (pc' := 4) (L' := [(3, .int (x3 + 1)), (2, .int (x2 + 1)), (0, .ref 10), (1, .int x1)]) (st' := []) (I' := I) (J' := J) (by with_unfolding_all rfl) ?_
        refine pq_perm (L := [(0, .ref 10), (1, .int x1), (2, .int (x2 + 1)), (3, .int (x3 + 1))]) (leqn_of ⟨rfl, rfl, rfl, rfl, trivial⟩ ⟨rfl, rfl, rfl, rfl, trivial⟩ ⟨rfl, rfl, rfl, rfl, trivial⟩) ?_
        exact f113_10_l4_pq hB k (by omega) b m (by omega) (by omega) hq hx0
-- LP$World.printsOf
def f113_10 (N : Nat) (I : tI) (J : tJ) (a0 : Int32) : Option (Int32 × tI × tJ) :=
  (match f113_10_l4 N N I J a0 0 1 with | none => none | some (y1_1, y1_2, y1_3, I1, J1) => some (y1_2, I1, J1))
set_option maxRecDepth 100000 in
theorem f113_10_pq {sc : List Int32} {B : xM} {N : Nat} {I : tI} {J : tJ} {a0 : Int32} (hB : kB pT B) : ∀ {X : Option (Int32 × tI × tJ)}, f113_10 N I J a0 = X → pq sc B N (xt_113, 4, 1) 0 [(0, .ref 10), (1, .int a0)] [] I J (fun v I1 J1 => ∃ a, v = some (.int a) ∧ X = some (a, I1, J1)) := by
  intro X hq
  unfold f113_10 at hq
  have hle : N ≤ N := Nat.le_refl N
  refine pq_s hB 4 (pc' := 4) (L' := [(3, .int 1), (2, .int 0), (0, .ref 10), (1, .int a0)]) (st' := []) (I' := I) (J' := J) (by with_unfolding_all rfl) ?_
  refine pq_perm (L := [(0, .ref 10), (1, .int a0), (2, .int 0), (3, .int 1)]) (leqn_of ⟨rfl, rfl, rfl, rfl, trivial⟩ ⟨rfl, rfl, rfl, rfl, trivial⟩ ⟨rfl, rfl, rfl, rfl, trivial⟩) ?_
  refine f113_10_l4_pq hB N (Nat.le_refl N) N N hle (Nat.le_refl N) rfl ?_
  intro y1_1 y1_2 y1_3 I1 J1 hc1
  rw [hc1] at hq
  dsimp only at hq
  refine pq_s hB 1 (pc' := 30) (L' := [(0, .ref 10), (1, .int y1_1), (2, .int y1_2), (3, .int y1_3)]) (st' := [.int y1_2]) (I' := I1) (J' := J1) (by with_unfolding_all rfl) ?_
  subst hq
  exact pq_2i (x := y1_2) rfl ⟨_, rfl, rfl⟩
-- LP.prints
def f155_0 (N : Nat) (I : tI) (J : tJ) (a0 : Int32) : Option (Int32 × tI × tJ) :=
  (match f131_0 I J a0 with | (v1, I1, J1) => bif xcmp .eq v1 0 then (match f122_0 I1 J1 1 with | (v3, I3, J3) => some (v3, I3, J3)) else (match f113_10 N I1 J1 a0 with | none => none | some (v4, I4, J4) => (match f121_0 I4 J4 v4 with | (v5, I5, J5) => some (v5, I5, J5))))
set_option maxRecDepth 100000 in
theorem f155_0_pq {sc : List Int32} {B : xM} {N : Nat} {I : tI} {J : tJ} {a0 : Int32} (hB : kB pT B) : ∀ {X : Option (Int32 × tI × tJ)}, f155_0 N I J a0 = X → pq sc B N (xt_155, 2, 1) 0 [(0, .ref 0), (1, .int a0)] [] I J (fun v I1 J1 => ∃ a, v = some (.int a) ∧ X = some (a, I1, J1)) := by
  intro X hq
  unfold f155_0 at hq
  have hle : N ≤ N := Nat.le_refl N
  refine pq_s hB 2 (pc' := 2) (L' := [(0, .ref 0), (1, .int a0)]) (st' := [.int a0, .ref 0]) (I' := I) (J' := J) (by with_unfolding_all rfl) ?_
  generalize hc1 : f131_0 I J a0 = q1 at hq
  obtain ⟨v1, _, _⟩ := q1
  dsimp only at hq
  refine pq_1 rfl rfl rfl rfl (f131_0_pq hB hc1) ?_
  rintro _ I1 J1 ⟨rfl, rfl, rfl⟩
  refine pq_ifn hB rfl (fun h2 => ?_) (fun h2 => ?_)
  · rw [h2, cond_true] at hq
    refine pq_s hB 2 (pc' := 25) (L' := [(0, .ref 0), (1, .int a0)]) (st' := [.int 1, .ref 0]) (I' := I1) (J' := J1) (by with_unfolding_all rfl) ?_
    generalize hc3 : f122_0 I1 J1 1 = q3 at hq
    obtain ⟨v3, _, _⟩ := q3
    dsimp only at hq
    refine pq_1 rfl rfl rfl rfl (f122_0_pq hB hc3) ?_
    rintro _ I3 J3 ⟨rfl, rfl, rfl⟩
    subst hq
    exact pq_2i (x := v3) rfl ⟨_, rfl, rfl⟩
  · rw [h2, cond_false] at hq
    refine pq_s hB 4 (pc' := 14) (L' := [(0, .ref 0), (1, .int a0)]) (st' := [.int a0, .ref 10, .ref 0]) (I' := I1) (J' := J1) (by with_unfolding_all rfl) ?_
    refine pq_1 rfl rfl rfl rfl (pq_le hle (f113_10_pq hB rfl)) ?_
    rintro _ I4 J4 ⟨v4, rfl, hc4⟩
    rw [hc4] at hq
    dsimp only at hq
    generalize hc5 : f121_0 I4 J4 v4 = q5 at hq
    obtain ⟨v5, _, _⟩ := q5
    dsimp only at hq
    refine pq_1 rfl rfl rfl rfl (f121_0_pq hB hc5) ?_
    rintro _ I5 J5 ⟨rfl, rfl, rfl⟩
    refine pq_s hB 1 (pc' := 28) (L' := [(0, .ref 0), (1, .int a0)]) (st' := [.int v5]) (I' := I5) (J' := J5) (by with_unfolding_all rfl) ?_
    subst hq
    exact pq_2i (x := v5) rfl ⟨_, rfl, rfl⟩
-- LPModel.nextPrice
def f271_185 (I : tI) (J : tJ) : Int32 × tI × tJ :=
  (match f270_185 I J ((I 186 5) + 1) with | (v1, I1, J1) => (v1, I1, J1))
set_option maxRecDepth 100000 in
theorem f271_185_pq {sc : List Int32} {B : xM} {n : Nat} {I : tI} {J : tJ} (hB : kB pT B) : ∀ {q : Int32 × tI × tJ}, f271_185 I J = q → pq sc B n (xt_271, 1, 1) 0 [(0, .ref 185)] [] I J (fun v I1 J1 => v = some (.int q.1) ∧ I1 = q.2.1 ∧ J1 = q.2.2) := by
  intro q hq
  unfold f271_185 at hq
  refine pq_s hB 7 (pc' := 9) (L' := [(0, .ref 185)]) (st' := [.int ((I 186 5) + 1), .ref 185]) (I' := I) (J' := J) (by with_unfolding_all rfl) ?_
  generalize hc1 : f270_185 I J ((I 186 5) + 1) = q1 at hq
  obtain ⟨v1, _, _⟩ := q1
  dsimp only at hq
  refine pq_1 rfl rfl rfl rfl (f270_185_pq hB hc1) ?_
  rintro _ I1 J1 ⟨rfl, rfl, rfl⟩
  subst hq
  exact pq_2i (x := v1) rfl ⟨rfl, rfl, rfl⟩
-- LPModel.buysOne
def f286_185 (N : Nat) (I : tI) (J : tJ) (a0 : Int32) : Option (Int32 × tI × tJ) :=
  (match f271_185 I J with | (v1, I1, J1) => bif xcmp .eq (I1 186 5) 999 then some (0, I1, J1) else bif xcmp .ge (I1 186 ((128 + a0)).toNatClampNeg) v1 then (match f284_185 N (tup I1 186 (((128 + a0)).toNatClampNeg) ((I1 186 ((128 + a0)).toNatClampNeg) - v1)) J1 with | none => none | some (_, I4, J4) => bif xcmp .gt (I4 186 5) 120 then some (1, I4, J4) else some (1, (tup I4 186 ((((132 + (I4 186 5)) - 1)).toNatClampNeg) a0), J4)) else some (0, I1, J1))
set_option maxRecDepth 100000 in
theorem f286_185_pq {sc : List Int32} {B : xM} {N : Nat} {I : tI} {J : tJ} {a0 : Int32} (hB : kB pT B) : ∀ {X : Option (Int32 × tI × tJ)}, f286_185 N I J a0 = X → pq sc B N (xt_286, 3, 3) 0 [(0, .ref 185), (1, .int a0)] [] I J (fun v I1 J1 => ∃ a, v = some (.int a) ∧ X = some (a, I1, J1)) := by
  intro X hq
  unfold f286_185 at hq
  have hle : N ≤ N := Nat.le_refl N
  refine pq_s hB 1 (pc' := 1) (L' := [(0, .ref 185), (1, .int a0)]) (st' := [.ref 185]) (I' := I) (J' := J) (by with_unfolding_all rfl) ?_
  generalize hc1 : f271_185 I J = q1 at hq
  obtain ⟨v1, _, _⟩ := q1
  dsimp only at hq
  refine pq_1 rfl rfl rfl rfl (f271_185_pq hB hc1) ?_
  rintro _ I1 J1 ⟨rfl, rfl, rfl⟩
  refine pq_s hB 6 (pc' := 14) (L' := [(2, .int v1), (0, .ref 185), (1, .int a0)]) (st' := [.int 999, .int (I1 186 5)]) (I' := I1) (J' := J1) (by with_unfolding_all rfl) ?_
  refine pq_icn hB rfl (fun h2 => ?_) (fun h2 => ?_)
  · rw [h2, cond_true] at hq
    refine pq_s hB 1 (pc' := 32) (L' := [(2, .int v1), (0, .ref 185), (1, .int a0)]) (st' := [.int 0]) (I' := I1) (J' := J1) (by with_unfolding_all rfl) ?_
    subst hq
    exact pq_2i (x := 0) rfl ⟨_, rfl, rfl⟩
  · rw [h2, cond_false] at hq
    refine pq_s hB 7 (pc' := 28) (L' := [(2, .int v1), (0, .ref 185), (1, .int a0)]) (st' := [.int v1, .int (I1 186 ((128 + a0)).toNatClampNeg)]) (I' := I1) (J' := J1) (by with_unfolding_all rfl) ?_
    refine pq_icn hB rfl (fun h3 => ?_) (fun h3 => ?_)
    · rw [h3, cond_true] at hq
      refine pq_s hB 11 (pc' := 48) (L' := [(2, .int v1), (0, .ref 185), (1, .int a0)]) (st' := [.ref 185]) (I' := (tup I1 186 (((128 + a0)).toNatClampNeg) ((I1 186 ((128 + a0)).toNatClampNeg) - v1))) (J' := J1) (by with_unfolding_all rfl) ?_
      refine pq_1 rfl rfl rfl rfl (pq_le hle (f284_185_pq hB rfl)) ?_
      rintro _ I4 J4 ⟨rfl, hc4⟩
      rw [hc4] at hq
      dsimp only at hq
      refine pq_s hB 5 (pc' := 59) (L' := [(2, .int v1), (0, .ref 185), (1, .int a0)]) (st' := [.int 120, .int (I4 186 5)]) (I' := I4) (J' := J4) (by with_unfolding_all rfl) ?_
      refine pq_icn hB rfl (fun h5 => ?_) (fun h5 => ?_)
      · rw [h5, cond_true] at hq
        refine pq_s hB 1 (pc' := 81) (L' := [(2, .int v1), (0, .ref 185), (1, .int a0)]) (st' := [.int 1]) (I' := I4) (J' := J4) (by with_unfolding_all rfl) ?_
        subst hq
        exact pq_2i (x := 1) rfl ⟨_, rfl, rfl⟩
      · rw [h5, cond_false] at hq
        refine pq_s hB 13 (pc' := 81) (L' := [(2, .int v1), (0, .ref 185), (1, .int a0)]) (st' := [.int 1]) (I' := (tup I4 186 ((((132 + (I4 186 5)) - 1)).toNatClampNeg) a0)) (J' := J4) (by with_unfolding_all rfl) ?_
        subst hq
        exact pq_2i (x := 1) rfl ⟨_, rfl, rfl⟩
    · rw [h3, cond_false] at hq
      refine pq_s hB 1 (pc' := 32) (L' := [(2, .int v1), (0, .ref 185), (1, .int a0)]) (st' := [.int 0]) (I' := I1) (J' := J1) (by with_unfolding_all rfl) ?_
      subst hq
      exact pq_2i (x := 0) rfl ⟨_, rfl, rfl⟩
-- LPModel.buy, the loop at 28, to [47]
def f287_185_l28 (N : Nat) : Nat → tI → tJ → Int32 → Int32 → Int32 → Option (Int32 × Int32 × Int32 × tI × tJ)
  | 0, _, _, _, _, _ => none
  | k + 1, I, J, x1, x2, x3 =>
    bif xcmp .ge x3 x2 then some (x1, x2, x3, I, J) else (match f286_185 N I J x1 with | none => none | some (v7, I7, J7) => bif xcmp .eq v7 0 then some (x1, x2, x3, I7, J7) else f287_185_l28 N k I7 J7 x1 x2 (x3 + 1))
set_option maxRecDepth 100000 in
theorem f287_185_l28_pq {sc : List Int32} {B : xM} {N : Nat} {P : Option Value → tI → tJ → Prop} (hB : kB pT B) : ∀ (k : Nat), k ≤ N → ∀ (b m : Nat), b ≤ k → b ≤ m → ∀ {I : tI} {J : tJ} {x1 : Int32} {x2 : Int32} {x3 : Int32} {Y : Option (Int32 × Int32 × Int32 × tI × tJ)}, f287_185_l28 N k I J x1 x2 x3 = Y → (∀ {y1 : Int32} {y2 : Int32} {y3 : Int32} {I1 : tI} {J1 : tJ}, Y = some (y1, y2, y3, I1, J1) → pq sc B m (xt_287, 4, 1) 47 [(0, .ref 185), (1, .int y1), (2, .int y2), (3, .int y3)] [] I1 J1 P) → pq sc B b (xt_287, 4, 1) 28 [(0, .ref 185), (1, .int x1), (2, .int x2), (3, .int x3)] [] I J P
  | 0, _, b, _, hb, _, _, _, _, _, _, _, _, _ => by
    have e : b = 0 := by omega
    subst e
    exact pq_zero
  | _ + 1, _, 0, _, _, _, _, _, _, _, _, _, _, _ => pq_zero
  | k + 1, hk, b + 1, m, hb, hm, I, J, x1, x2, x3, Y, hq, hx0 => by
    unfold f287_185_l28 at hq
    have hle : b ≤ N := by omega
    refine pq_s1 hB 1 (pc' := 30) (L' := [(0, .ref 185), (1, .int x1), (2, .int x2), (3, .int x3)]) (st' := [.int x2, .int x3]) (I' := I) (J' := J) (by with_unfolding_all rfl) ?_
    refine pq_icn hB rfl (fun h6 => ?_) (fun h6 => ?_)
    · rw [h6, cond_true] at hq
      exact pq_le (by omega) (hx0 hq.symm)
    · rw [h6, cond_false] at hq
      refine pq_s hB 2 (pc' := 35) (L' := [(0, .ref 185), (1, .int x1), (2, .int x2), (3, .int x3)]) (st' := [.int x1, .ref 185]) (I' := I) (J' := J) (by with_unfolding_all rfl) ?_
      refine pq_1 rfl rfl rfl rfl (pq_le hle (f286_185_pq hB rfl)) ?_
      rintro _ I7 J7 ⟨v7, rfl, hc7⟩
      rw [hc7] at hq
      dsimp only at hq
      refine pq_ifn hB rfl (fun h8 => ?_) (fun h8 => ?_)
      · rw [h8, cond_true] at hq
        exact pq_le (by omega) (hx0 hq.symm)
      · rw [h8, cond_false] at hq
        refine pq_s hB 2 (pc' := 28) (L' := [(3, .int (x3 + 1)), (0, .ref 185), (1, .int x1), (2, .int x2)]) (st' := []) (I' := I7) (J' := J7) (by with_unfolding_all rfl) ?_
        refine pq_perm (L := [(0, .ref 185), (1, .int x1), (2, .int x2), (3, .int (x3 + 1))]) (leqn_of ⟨rfl, rfl, rfl, rfl, trivial⟩ ⟨rfl, rfl, rfl, rfl, trivial⟩ ⟨rfl, rfl, rfl, rfl, trivial⟩) ?_
        exact f287_185_l28_pq hB k (by omega) b m (by omega) (by omega) hq hx0
-- LPModel.buy, from 47 on
def f287_185_j47 (N : Nat) (I : tI) (J : tJ) (x3 : Int32) : Option (Int32 × tI × tJ) :=
  bif xcmp .ne x3 0 then (match f206_185 I J x3 with | (v8, I8, J8) => some (v8, I8, J8)) else (match f205_185 I J 7 with | (v9, I9, J9) => some (v9, I9, J9))
set_option maxRecDepth 100000 in
theorem f287_185_j47_pq {sc : List Int32} {B : xM} {N : Nat} {I : tI} {J : tJ} {x3 : Int32} (hB : kB pT B) : ∀ {X : Option (Int32 × tI × tJ)}, f287_185_j47 N I J x3 = X → pq sc B N (xt_287, 4, 1) 47 [(0, .ref 185), (3, .int x3)] [] I J (fun v I1 J1 => ∃ a, v = some (.int a) ∧ X = some (a, I1, J1)) := by
  intro X hq
  unfold f287_185_j47 at hq
  have hle : N ≤ N := Nat.le_refl N
  refine pq_s hB 1 (pc' := 48) (L' := [(0, .ref 185), (3, .int x3)]) (st' := [.int x3]) (I' := I) (J' := J) (by with_unfolding_all rfl) ?_
  refine pq_ifn hB rfl (fun h7 => ?_) (fun h7 => ?_)
  · rw [h7, cond_true] at hq
    refine pq_s hB 2 (pc' := 62) (L' := [(0, .ref 185), (3, .int x3)]) (st' := [.int x3, .ref 185]) (I' := I) (J' := J) (by with_unfolding_all rfl) ?_
    generalize hc8 : f206_185 I J x3 = q8 at hq
    obtain ⟨v8, _, _⟩ := q8
    dsimp only at hq
    refine pq_1 rfl rfl rfl rfl (f206_185_pq hB hc8) ?_
    rintro _ I8 J8 ⟨rfl, rfl, rfl⟩
    subst hq
    exact pq_2i (x := v8) rfl ⟨_, rfl, rfl⟩
  · rw [h7, cond_false] at hq
    refine pq_s hB 2 (pc' := 54) (L' := [(0, .ref 185), (3, .int x3)]) (st' := [.int 7, .ref 185]) (I' := I) (J' := J) (by with_unfolding_all rfl) ?_
    generalize hc9 : f205_185 I J 7 = q9 at hq
    obtain ⟨v9, _, _⟩ := q9
    dsimp only at hq
    refine pq_1 rfl rfl rfl rfl (f205_185_pq hB hc9) ?_
    rintro _ I9 J9 ⟨rfl, rfl, rfl⟩
    refine pq_s hB 1 (pc' := 65) (L' := [(0, .ref 185), (3, .int x3)]) (st' := [.int v9]) (I' := I9) (J' := J9) (by with_unfolding_all rfl) ?_
    subst hq
    exact pq_2i (x := v9) rfl ⟨_, rfl, rfl⟩
-- LPModel.buy
def f287_185 (N : Nat) (I : tI) (J : tJ) (a0 : Int32) (a1 : Int32) : Option (Int32 × tI × tJ) :=
  (match f256_185 I J a0 with | (v1, I1, J1) => bif xcmp .eq v1 0 then (match f205_185 I1 J1 1 with | (v3, I3, J3) => some (v3, I3, J3)) else (match f216 I1 J1 ((a1).toInt64) 1 99 with | (v4, I4, J4) => bif xcmp .ne v4 0 then (match f287_185_l28 N N I4 J4 a0 a1 0 with | none => none | some (y6_1, y6_2, y6_3, I6, J6) => f287_185_j47 N I6 J6 y6_3) else (match f205_185 I4 J4 1 with | (v7, I7, J7) => some (v7, I7, J7))))
set_option maxRecDepth 100000 in
theorem f287_185_pq {sc : List Int32} {B : xM} {N : Nat} {I : tI} {J : tJ} {a0 : Int32} {a1 : Int32} (hB : kB pT B) : ∀ {X : Option (Int32 × tI × tJ)}, f287_185 N I J a0 a1 = X → pq sc B N (xt_287, 4, 1) 0 [(0, .ref 185), (1, .int a0), (2, .int a1)] [] I J (fun v I1 J1 => ∃ a, v = some (.int a) ∧ X = some (a, I1, J1)) := by
  intro X hq
  unfold f287_185 at hq
  have hle : N ≤ N := Nat.le_refl N
  refine pq_s hB 2 (pc' := 2) (L' := [(0, .ref 185), (1, .int a0), (2, .int a1)]) (st' := [.int a0, .ref 185]) (I' := I) (J' := J) (by with_unfolding_all rfl) ?_
  generalize hc1 : f256_185 I J a0 = q1 at hq
  obtain ⟨v1, _, _⟩ := q1
  dsimp only at hq
  refine pq_1 rfl rfl rfl rfl (f256_185_pq hB hc1) ?_
  rintro _ I1 J1 ⟨rfl, rfl, rfl⟩
  refine pq_ifn hB rfl (fun h2 => ?_) (fun h2 => ?_)
  · rw [h2, cond_true] at hq
    refine pq_s hB 2 (pc' := 22) (L' := [(0, .ref 185), (1, .int a0), (2, .int a1)]) (st' := [.int 1, .ref 185]) (I' := I1) (J' := J1) (by with_unfolding_all rfl) ?_
    generalize hc3 : f205_185 I1 J1 1 = q3 at hq
    obtain ⟨v3, _, _⟩ := q3
    dsimp only at hq
    refine pq_1 rfl rfl rfl rfl (f205_185_pq hB hc3) ?_
    rintro _ I3 J3 ⟨rfl, rfl, rfl⟩
    subst hq
    exact pq_2i (x := v3) rfl ⟨_, rfl, rfl⟩
  · rw [h2, cond_false] at hq
    refine pq_s hB 4 (pc' := 14) (L' := [(0, .ref 185), (1, .int a0), (2, .int a1)]) (st' := [.long 99, .long 1, .long (a1).toInt64]) (I' := I1) (J' := J1) (by with_unfolding_all rfl) ?_
    generalize hc4 : f216 I1 J1 ((a1).toInt64) 1 99 = q4 at hq
    obtain ⟨v4, _, _⟩ := q4
    dsimp only at hq
    refine pq_1 rfl rfl rfl rfl (f216_pq hB hc4) ?_
    rintro _ I4 J4 ⟨rfl, rfl, rfl⟩
    refine pq_ifn hB rfl (fun h5 => ?_) (fun h5 => ?_)
    · rw [h5, cond_true] at hq
      refine pq_s hB 2 (pc' := 28) (L' := [(3, .int 0), (0, .ref 185), (1, .int a0), (2, .int a1)]) (st' := []) (I' := I4) (J' := J4) (by with_unfolding_all rfl) ?_
      refine pq_perm (L := [(0, .ref 185), (1, .int a0), (2, .int a1), (3, .int 0)]) (leqn_of ⟨rfl, rfl, rfl, rfl, trivial⟩ ⟨rfl, rfl, rfl, rfl, trivial⟩ ⟨rfl, rfl, rfl, rfl, trivial⟩) ?_
      refine f287_185_l28_pq hB N (Nat.le_refl N) N N hle (Nat.le_refl N) rfl ?_
      intro y6_1 y6_2 y6_3 I6 J6 hc6
      rw [hc6] at hq
      dsimp only at hq
      refine pq_perm (L := [(0, .ref 185), (3, .int y6_3)]) (leqn_of ⟨rfl, rfl, trivial⟩ ⟨rfl, rfl, trivial⟩ ⟨rfl, rfl, rfl, rfl, trivial⟩) ?_
      exact f287_185_j47_pq hB hq
    · rw [h5, cond_false] at hq
      refine pq_s hB 2 (pc' := 22) (L' := [(0, .ref 185), (1, .int a0), (2, .int a1)]) (st' := [.int 1, .ref 185]) (I' := I4) (J' := J4) (by with_unfolding_all rfl) ?_
      generalize hc7 : f205_185 I4 J4 1 = q7 at hq
      obtain ⟨v7, _, _⟩ := q7
      dsimp only at hq
      refine pq_1 rfl rfl rfl rfl (f205_185_pq hB hc7) ?_
      rintro _ I7 J7 ⟨rfl, rfl, rfl⟩
      subst hq
      exact pq_2i (x := v7) rfl ⟨_, rfl, rfl⟩
-- LPModel.skip
def f288_185 (N : Nat) (I : tI) (J : tJ) (a0 : Int32) : Option (Int32 × tI × tJ) :=
  (match f216 I J ((a0).toInt64) 1 99 with | (v1, I1, J1) => bif xcmp .ne v1 0 then (bif xcmp .le ((I1 186 5) + a0) 999 then (match f285_185 N I1 J1 a0 with | none => none | some (_, I4, J4) => (match f206_185 I4 J4 (I4 186 5) with | (v5, I5, J5) => some (v5, I5, J5))) else (match f205_185 I1 J1 4 with | (v6, I6, J6) => some (v6, I6, J6))) else (match f205_185 I1 J1 1 with | (v7, I7, J7) => some (v7, I7, J7)))
set_option maxRecDepth 100000 in
theorem f288_185_pq {sc : List Int32} {B : xM} {N : Nat} {I : tI} {J : tJ} {a0 : Int32} (hB : kB pT B) : ∀ {X : Option (Int32 × tI × tJ)}, f288_185 N I J a0 = X → pq sc B N (xt_288, 2, 1) 0 [(0, .ref 185), (1, .int a0)] [] I J (fun v I1 J1 => ∃ a, v = some (.int a) ∧ X = some (a, I1, J1)) := by
  intro X hq
  unfold f288_185 at hq
  have hle : N ≤ N := Nat.le_refl N
  refine pq_s hB 4 (pc' := 6) (L' := [(0, .ref 185), (1, .int a0)]) (st' := [.long 99, .long 1, .long (a0).toInt64]) (I' := I) (J' := J) (by with_unfolding_all rfl) ?_
  generalize hc1 : f216 I J ((a0).toInt64) 1 99 = q1 at hq
  obtain ⟨v1, _, _⟩ := q1
  dsimp only at hq
  refine pq_1 rfl rfl rfl rfl (f216_pq hB hc1) ?_
  rintro _ I1 J1 ⟨rfl, rfl, rfl⟩
  refine pq_ifn hB rfl (fun h2 => ?_) (fun h2 => ?_)
  · rw [h2, cond_true] at hq
    refine pq_s hB 7 (pc' := 29) (L' := [(0, .ref 185), (1, .int a0)]) (st' := [.int 999, .int ((I1 186 5) + a0)]) (I' := I1) (J' := J1) (by with_unfolding_all rfl) ?_
    refine pq_icn hB rfl (fun h3 => ?_) (fun h3 => ?_)
    · rw [h3, cond_true] at hq
      refine pq_s hB 2 (pc' := 40) (L' := [(0, .ref 185), (1, .int a0)]) (st' := [.int a0, .ref 185]) (I' := I1) (J' := J1) (by with_unfolding_all rfl) ?_
      refine pq_1 rfl rfl rfl rfl (pq_le hle (f285_185_pq hB rfl)) ?_
      rintro _ I4 J4 ⟨rfl, hc4⟩
      rw [hc4] at hq
      dsimp only at hq
      refine pq_s hB 5 (pc' := 50) (L' := [(0, .ref 185), (1, .int a0)]) (st' := [.int (I4 186 5), .ref 185]) (I' := I4) (J' := J4) (by with_unfolding_all rfl) ?_
      generalize hc5 : f206_185 I4 J4 (I4 186 5) = q5 at hq
      obtain ⟨v5, _, _⟩ := q5
      dsimp only at hq
      refine pq_1 rfl rfl rfl rfl (f206_185_pq hB hc5) ?_
      rintro _ I5 J5 ⟨rfl, rfl, rfl⟩
      subst hq
      exact pq_2i (x := v5) rfl ⟨_, rfl, rfl⟩
    · rw [h3, cond_false] at hq
      refine pq_s hB 2 (pc' := 34) (L' := [(0, .ref 185), (1, .int a0)]) (st' := [.int 4, .ref 185]) (I' := I1) (J' := J1) (by with_unfolding_all rfl) ?_
      generalize hc6 : f205_185 I1 J1 4 = q6 at hq
      obtain ⟨v6, _, _⟩ := q6
      dsimp only at hq
      refine pq_1 rfl rfl rfl rfl (f205_185_pq hB hc6) ?_
      rintro _ I6 J6 ⟨rfl, rfl, rfl⟩
      subst hq
      exact pq_2i (x := v6) rfl ⟨_, rfl, rfl⟩
  · rw [h2, cond_false] at hq
    refine pq_s hB 2 (pc' := 14) (L' := [(0, .ref 185), (1, .int a0)]) (st' := [.int 1, .ref 185]) (I' := I1) (J' := J1) (by with_unfolding_all rfl) ?_
    generalize hc7 : f205_185 I1 J1 1 = q7 at hq
    obtain ⟨v7, _, _⟩ := q7
    dsimp only at hq
    refine pq_1 rfl rfl rfl rfl (f205_185_pq hB hc7) ?_
    rintro _ I7 J7 ⟨rfl, rfl, rfl⟩
    subst hq
    exact pq_2i (x := v7) rfl ⟨_, rfl, rfl⟩
-- LPModel.isMade
def f257_185 (I : tI) (J : tJ) (a0 : Int32) : Int32 × tI × tJ :=
  bif xcmp .lt a0 1 then (0, I, J) else bif xcmp .gt a0 (I 186 5) then (0, I, J) else (1, I, J)
set_option maxRecDepth 100000 in
theorem f257_185_pq {sc : List Int32} {B : xM} {n : Nat} {I : tI} {J : tJ} {a0 : Int32} (hB : kB pT B) : ∀ {q : Int32 × tI × tJ}, f257_185 I J a0 = q → pq sc B n (xt_257, 2, 3) 0 [(0, .ref 185), (1, .int a0)] [] I J (fun v I1 J1 => v = some (.int q.1) ∧ I1 = q.2.1 ∧ J1 = q.2.2) := by
  intro q hq
  unfold f257_185 at hq
  refine pq_s hB 2 (pc' := 2) (L' := [(0, .ref 185), (1, .int a0)]) (st' := [.int 1, .int a0]) (I' := I) (J' := J) (by with_unfolding_all rfl) ?_
  refine pq_icn hB rfl (fun h1 => ?_) (fun h1 => ?_)
  · rw [h1, cond_true] at hq
    refine pq_s hB 1 (pc' := 20) (L' := [(0, .ref 185), (1, .int a0)]) (st' := [.int 0]) (I' := I) (J' := J) (by with_unfolding_all rfl) ?_
    subst hq
    exact pq_2i (x := 0) rfl ⟨rfl, rfl, rfl⟩
  · rw [h1, cond_false] at hq
    refine pq_s hB 5 (pc' := 12) (L' := [(0, .ref 185), (1, .int a0)]) (st' := [.int (I 186 5), .int a0]) (I' := I) (J' := J) (by with_unfolding_all rfl) ?_
    refine pq_icn hB rfl (fun h2 => ?_) (fun h2 => ?_)
    · rw [h2, cond_true] at hq
      refine pq_s hB 1 (pc' := 20) (L' := [(0, .ref 185), (1, .int a0)]) (st' := [.int 0]) (I' := I) (J' := J) (by with_unfolding_all rfl) ?_
      subst hq
      exact pq_2i (x := 0) rfl ⟨rfl, rfl, rfl⟩
    · rw [h2, cond_false] at hq
      refine pq_s hB 2 (pc' := 20) (L' := [(0, .ref 185), (1, .int a0)]) (st' := [.int 1]) (I' := I) (J' := J) (by with_unfolding_all rfl) ?_
      subst hq
      exact pq_2i (x := 1) rfl ⟨rfl, rfl, rfl⟩
-- LPModel.ownerOf
def f279_185 (I : tI) (J : tJ) (a0 : Int32) : Int32 × tI × tJ :=
  bif xcmp .le a0 120 then ((I 186 (((132 + a0) - 1)).toNatClampNeg), I, J) else ((-1), I, J)
set_option maxRecDepth 100000 in
theorem f279_185_pq {sc : List Int32} {B : xM} {n : Nat} {I : tI} {J : tJ} {a0 : Int32} (hB : kB pT B) : ∀ {q : Int32 × tI × tJ}, f279_185 I J a0 = q → pq sc B n (xt_279, 2, 1) 0 [(0, .ref 185), (1, .int a0)] [] I J (fun v I1 J1 => v = some (.int q.1) ∧ I1 = q.2.1 ∧ J1 = q.2.2) := by
  intro q hq
  unfold f279_185 at hq
  refine pq_s hB 2 (pc' := 3) (L' := [(0, .ref 185), (1, .int a0)]) (st' := [.int 120, .int a0]) (I' := I) (J' := J) (by with_unfolding_all rfl) ?_
  refine pq_icn hB rfl (fun h1 => ?_) (fun h1 => ?_)
  · rw [h1, cond_true] at hq
    refine pq_s hB 8 (pc' := 22) (L' := [(0, .ref 185), (1, .int a0)]) (st' := [.int (I 186 (((132 + a0) - 1)).toNatClampNeg)]) (I' := I) (J' := J) (by with_unfolding_all rfl) ?_
    subst hq
    exact pq_2i (x := (I 186 (((132 + a0) - 1)).toNatClampNeg)) rfl ⟨rfl, rfl, rfl⟩
  · rw [h1, cond_false] at hq
    refine pq_s hB 2 (pc' := 22) (L' := [(0, .ref 185), (1, .int a0)]) (st' := [.int (-1)]) (I' := I) (J' := J) (by with_unfolding_all rfl) ?_
    subst hq
    exact pq_2i (x := (-1)) rfl ⟨rfl, rfl, rfl⟩
-- LPModel.give
def f289_185 (I : tI) (J : tJ) (a0 : Int32) (a1 : Int32) : Int32 × tI × tJ :=
  (match f257_185 I J a0 with | (v1, I1, J1) => bif xcmp .eq v1 0 then (match f205_185 I1 J1 1 with | (v3, I3, J3) => (v3, I3, J3)) else (match f256_185 I1 J1 a1 with | (v4, I4, J4) => bif xcmp .ne v4 0 then (match f279_185 I4 J4 a0 with | (v6, I6, J6) => bif xcmp .eq v6 (-1) then (match f205_185 I6 J6 7 with | (v8, I8, J8) => (v8, I8, J8)) else bif xcmp .ne v6 a1 then (match f206_185 (tup I6 186 ((((132 + a0) - 1)).toNatClampNeg) a1) J6 v6 with | (v10, I10, J10) => (v10, I10, J10)) else (match f205_185 I6 J6 7 with | (v11, I11, J11) => (v11, I11, J11))) else (match f205_185 I4 J4 1 with | (v12, I12, J12) => (v12, I12, J12))))
set_option maxRecDepth 100000 in
theorem f289_185_pq {sc : List Int32} {B : xM} {n : Nat} {I : tI} {J : tJ} {a0 : Int32} {a1 : Int32} (hB : kB pT B) : ∀ {q : Int32 × tI × tJ}, f289_185 I J a0 a1 = q → pq sc B n (xt_289, 4, 1) 0 [(0, .ref 185), (1, .int a0), (2, .int a1)] [] I J (fun v I1 J1 => v = some (.int q.1) ∧ I1 = q.2.1 ∧ J1 = q.2.2) := by
  intro q hq
  unfold f289_185 at hq
  refine pq_s hB 2 (pc' := 2) (L' := [(0, .ref 185), (1, .int a0), (2, .int a1)]) (st' := [.int a0, .ref 185]) (I' := I) (J' := J) (by with_unfolding_all rfl) ?_
  generalize hc1 : f257_185 I J a0 = q1 at hq
  obtain ⟨v1, _, _⟩ := q1
  dsimp only at hq
  refine pq_1 rfl rfl rfl rfl (f257_185_pq hB hc1) ?_
  rintro _ I1 J1 ⟨rfl, rfl, rfl⟩
  refine pq_ifn hB rfl (fun h2 => ?_) (fun h2 => ?_)
  · rw [h2, cond_true] at hq
    refine pq_s hB 2 (pc' := 18) (L' := [(0, .ref 185), (1, .int a0), (2, .int a1)]) (st' := [.int 1, .ref 185]) (I' := I1) (J' := J1) (by with_unfolding_all rfl) ?_
    generalize hc3 : f205_185 I1 J1 1 = q3 at hq
    obtain ⟨v3, _, _⟩ := q3
    dsimp only at hq
    refine pq_1 rfl rfl rfl rfl (f205_185_pq hB hc3) ?_
    rintro _ I3 J3 ⟨rfl, rfl, rfl⟩
    subst hq
    exact pq_2i (x := v3) rfl ⟨rfl, rfl, rfl⟩
  · rw [h2, cond_false] at hq
    refine pq_s hB 2 (pc' := 10) (L' := [(0, .ref 185), (1, .int a0), (2, .int a1)]) (st' := [.int a1, .ref 185]) (I' := I1) (J' := J1) (by with_unfolding_all rfl) ?_
    generalize hc4 : f256_185 I1 J1 a1 = q4 at hq
    obtain ⟨v4, _, _⟩ := q4
    dsimp only at hq
    refine pq_1 rfl rfl rfl rfl (f256_185_pq hB hc4) ?_
    rintro _ I4 J4 ⟨rfl, rfl, rfl⟩
    refine pq_ifn hB rfl (fun h5 => ?_) (fun h5 => ?_)
    · rw [h5, cond_true] at hq
      refine pq_s hB 2 (pc' := 24) (L' := [(0, .ref 185), (1, .int a0), (2, .int a1)]) (st' := [.int a0, .ref 185]) (I' := I4) (J' := J4) (by with_unfolding_all rfl) ?_
      generalize hc6 : f279_185 I4 J4 a0 = q6 at hq
      obtain ⟨v6, _, _⟩ := q6
      dsimp only at hq
      refine pq_1 rfl rfl rfl rfl (f279_185_pq hB hc6) ?_
      rintro _ I6 J6 ⟨rfl, rfl, rfl⟩
      refine pq_s hB 3 (pc' := 30) (L' := [(3, .int v6), (0, .ref 185), (1, .int a0), (2, .int a1)]) (st' := [.int (-1), .int v6]) (I' := I6) (J' := J6) (by with_unfolding_all rfl) ?_
      refine pq_icn hB rfl (fun h7 => ?_) (fun h7 => ?_)
      · rw [h7, cond_true] at hq
        refine pq_s hB 2 (pc' := 41) (L' := [(3, .int v6), (0, .ref 185), (1, .int a0), (2, .int a1)]) (st' := [.int 7, .ref 185]) (I' := I6) (J' := J6) (by with_unfolding_all rfl) ?_
        generalize hc8 : f205_185 I6 J6 7 = q8 at hq
        obtain ⟨v8, _, _⟩ := q8
        dsimp only at hq
        refine pq_1 rfl rfl rfl rfl (f205_185_pq hB hc8) ?_
        rintro _ I8 J8 ⟨rfl, rfl, rfl⟩
        subst hq
        exact pq_2i (x := v8) rfl ⟨rfl, rfl, rfl⟩
      · rw [h7, cond_false] at hq
        refine pq_s hB 2 (pc' := 35) (L' := [(3, .int v6), (0, .ref 185), (1, .int a0), (2, .int a1)]) (st' := [.int a1, .int v6]) (I' := I6) (J' := J6) (by with_unfolding_all rfl) ?_
        refine pq_icn hB rfl (fun h9 => ?_) (fun h9 => ?_)
        · rw [h9, cond_true] at hq
          refine pq_s hB 11 (pc' := 60) (L' := [(3, .int v6), (0, .ref 185), (1, .int a0), (2, .int a1)]) (st' := [.int v6, .ref 185]) (I' := (tup I6 186 ((((132 + a0) - 1)).toNatClampNeg) a1)) (J' := J6) (by with_unfolding_all rfl) ?_
          generalize hc10 : f206_185 (tup I6 186 ((((132 + a0) - 1)).toNatClampNeg) a1) J6 v6 = q10 at hq
          obtain ⟨v10, _, _⟩ := q10
          dsimp only at hq
          refine pq_1 rfl rfl rfl rfl (f206_185_pq hB hc10) ?_
          rintro _ I10 J10 ⟨rfl, rfl, rfl⟩
          subst hq
          exact pq_2i (x := v10) rfl ⟨rfl, rfl, rfl⟩
        · rw [h9, cond_false] at hq
          refine pq_s hB 2 (pc' := 41) (L' := [(3, .int v6), (0, .ref 185), (1, .int a0), (2, .int a1)]) (st' := [.int 7, .ref 185]) (I' := I6) (J' := J6) (by with_unfolding_all rfl) ?_
          generalize hc11 : f205_185 I6 J6 7 = q11 at hq
          obtain ⟨v11, _, _⟩ := q11
          dsimp only at hq
          refine pq_1 rfl rfl rfl rfl (f205_185_pq hB hc11) ?_
          rintro _ I11 J11 ⟨rfl, rfl, rfl⟩
          subst hq
          exact pq_2i (x := v11) rfl ⟨rfl, rfl, rfl⟩
    · rw [h5, cond_false] at hq
      refine pq_s hB 2 (pc' := 18) (L' := [(0, .ref 185), (1, .int a0), (2, .int a1)]) (st' := [.int 1, .ref 185]) (I' := I4) (J' := J4) (by with_unfolding_all rfl) ?_
      generalize hc12 : f205_185 I4 J4 1 = q12 at hq
      obtain ⟨v12, _, _⟩ := q12
      dsimp only at hq
      refine pq_1 rfl rfl rfl rfl (f205_185_pq hB hc12) ?_
      rintro _ I12 J12 ⟨rfl, rfl, rfl⟩
      subst hq
      exact pq_2i (x := v12) rfl ⟨rfl, rfl, rfl⟩
-- LPModel.back
def f290_185 (I : tI) (J : tJ) (a0 : Int32) (a1 : Int32) : Int32 × tI × tJ :=
  (match f256_185 I J a0 with | (v1, I1, J1) => bif xcmp .eq v1 0 then (match f205_185 I1 J1 1 with | (v3, I3, J3) => (v3, I3, J3)) else (match f257_185 I1 J1 a1 with | (v4, I4, J4) => bif xcmp .ne v4 0 then (match f279_185 I4 J4 a1 with | (v6, I6, J6) => bif xcmp .eq v6 a0 then (match f270_185 (tup I6 186 ((((132 + a1) - 1)).toNatClampNeg) (-1)) J6 a1 with | (v8, I8, J8) => (match f206_185 (tup I8 186 (((128 + a0)).toNatClampNeg) (if (((tup I6 186 ((((132 + a1) - 1)).toNatClampNeg) (-1)) 186 (((128 + a0)).toNatClampNeg)) + (v8 / 2)) < 9999 then (((tup I6 186 ((((132 + a1) - 1)).toNatClampNeg) (-1)) 186 (((128 + a0)).toNatClampNeg)) + (v8 / 2)) else 9999)) J8 ((tup I8 186 (((128 + a0)).toNatClampNeg) (if (((tup I6 186 ((((132 + a1) - 1)).toNatClampNeg) (-1)) 186 (((128 + a0)).toNatClampNeg)) + (v8 / 2)) < 9999 then (((tup I6 186 ((((132 + a1) - 1)).toNatClampNeg) (-1)) 186 (((128 + a0)).toNatClampNeg)) + (v8 / 2)) else 9999)) 186 (((128 + a0)).toNatClampNeg)) with | (v9, I9, J9) => (v9, I9, J9))) else (match f205_185 I6 J6 7 with | (v10, I10, J10) => (v10, I10, J10))) else (match f205_185 I4 J4 1 with | (v11, I11, J11) => (v11, I11, J11))))
set_option maxRecDepth 100000 in
theorem f290_185_pq {sc : List Int32} {B : xM} {n : Nat} {I : tI} {J : tJ} {a0 : Int32} {a1 : Int32} (hB : kB pT B) : ∀ {q : Int32 × tI × tJ}, f290_185 I J a0 a1 = q → pq sc B n (xt_290, 3, 1) 0 [(0, .ref 185), (1, .int a0), (2, .int a1)] [] I J (fun v I1 J1 => v = some (.int q.1) ∧ I1 = q.2.1 ∧ J1 = q.2.2) := by
  intro q hq
  unfold f290_185 at hq
  refine pq_s hB 2 (pc' := 2) (L' := [(0, .ref 185), (1, .int a0), (2, .int a1)]) (st' := [.int a0, .ref 185]) (I' := I) (J' := J) (by with_unfolding_all rfl) ?_
  generalize hc1 : f256_185 I J a0 = q1 at hq
  obtain ⟨v1, _, _⟩ := q1
  dsimp only at hq
  refine pq_1 rfl rfl rfl rfl (f256_185_pq hB hc1) ?_
  rintro _ I1 J1 ⟨rfl, rfl, rfl⟩
  refine pq_ifn hB rfl (fun h2 => ?_) (fun h2 => ?_)
  · rw [h2, cond_true] at hq
    refine pq_s hB 2 (pc' := 18) (L' := [(0, .ref 185), (1, .int a0), (2, .int a1)]) (st' := [.int 1, .ref 185]) (I' := I1) (J' := J1) (by with_unfolding_all rfl) ?_
    generalize hc3 : f205_185 I1 J1 1 = q3 at hq
    obtain ⟨v3, _, _⟩ := q3
    dsimp only at hq
    refine pq_1 rfl rfl rfl rfl (f205_185_pq hB hc3) ?_
    rintro _ I3 J3 ⟨rfl, rfl, rfl⟩
    subst hq
    exact pq_2i (x := v3) rfl ⟨rfl, rfl, rfl⟩
  · rw [h2, cond_false] at hq
    refine pq_s hB 2 (pc' := 10) (L' := [(0, .ref 185), (1, .int a0), (2, .int a1)]) (st' := [.int a1, .ref 185]) (I' := I1) (J' := J1) (by with_unfolding_all rfl) ?_
    generalize hc4 : f257_185 I1 J1 a1 = q4 at hq
    obtain ⟨v4, _, _⟩ := q4
    dsimp only at hq
    refine pq_1 rfl rfl rfl rfl (f257_185_pq hB hc4) ?_
    rintro _ I4 J4 ⟨rfl, rfl, rfl⟩
    refine pq_ifn hB rfl (fun h5 => ?_) (fun h5 => ?_)
    · rw [h5, cond_true] at hq
      refine pq_s hB 2 (pc' := 24) (L' := [(0, .ref 185), (1, .int a0), (2, .int a1)]) (st' := [.int a1, .ref 185]) (I' := I4) (J' := J4) (by with_unfolding_all rfl) ?_
      generalize hc6 : f279_185 I4 J4 a1 = q6 at hq
      obtain ⟨v6, _, _⟩ := q6
      dsimp only at hq
      refine pq_1 rfl rfl rfl rfl (f279_185_pq hB hc6) ?_
      rintro _ I6 J6 ⟨rfl, rfl, rfl⟩
      refine pq_s hB 1 (pc' := 28) (L' := [(0, .ref 185), (1, .int a0), (2, .int a1)]) (st' := [.int a0, .int v6]) (I' := I6) (J' := J6) (by with_unfolding_all rfl) ?_
      refine pq_icn hB rfl (fun h7 => ?_) (fun h7 => ?_)
      · rw [h7, cond_true] at hq
        refine pq_s hB 23 (pc' := 75) (L' := [(0, .ref 185), (1, .int a0), (2, .int a1)]) (st' := [.int a1, .ref 185, .int ((tup I6 186 ((((132 + a1) - 1)).toNatClampNeg) (-1)) 186 (((128 + a0)).toNatClampNeg)), .int 9999, .int (128 + a0), .ref 186]) (I' := (tup I6 186 ((((132 + a1) - 1)).toNatClampNeg) (-1))) (J' := J6) (by with_unfolding_all rfl) ?_
        generalize hc8 : f270_185 (tup I6 186 ((((132 + a1) - 1)).toNatClampNeg) (-1)) J6 a1 = q8 at hq
        obtain ⟨v8, _, _⟩ := q8
        dsimp only at hq
        refine pq_1 rfl rfl rfl rfl (f270_185_pq hB hc8) ?_
        rintro _ I8 J8 ⟨rfl, rfl, rfl⟩
        refine pq_s hB 12 (pc' := 96) (L' := [(0, .ref 185), (1, .int a0), (2, .int a1)]) (st' := [.int ((tup I8 186 (((128 + a0)).toNatClampNeg) (if (((tup I6 186 ((((132 + a1) - 1)).toNatClampNeg) (-1)) 186 (((128 + a0)).toNatClampNeg)) + (v8 / 2)) < 9999 then (((tup I6 186 ((((132 + a1) - 1)).toNatClampNeg) (-1)) 186 (((128 + a0)).toNatClampNeg)) + (v8 / 2)) else 9999)) 186 (((128 + a0)).toNatClampNeg)), .ref 185]) (I' := (tup I8 186 (((128 + a0)).toNatClampNeg) (if (((tup I6 186 ((((132 + a1) - 1)).toNatClampNeg) (-1)) 186 (((128 + a0)).toNatClampNeg)) + (v8 / 2)) < 9999 then (((tup I6 186 ((((132 + a1) - 1)).toNatClampNeg) (-1)) 186 (((128 + a0)).toNatClampNeg)) + (v8 / 2)) else 9999))) (J' := J8) (by with_unfolding_all rfl) ?_
        generalize hc9 : f206_185 (tup I8 186 (((128 + a0)).toNatClampNeg) (if (((tup I6 186 ((((132 + a1) - 1)).toNatClampNeg) (-1)) 186 (((128 + a0)).toNatClampNeg)) + (v8 / 2)) < 9999 then (((tup I6 186 ((((132 + a1) - 1)).toNatClampNeg) (-1)) 186 (((128 + a0)).toNatClampNeg)) + (v8 / 2)) else 9999)) J8 ((tup I8 186 (((128 + a0)).toNatClampNeg) (if (((tup I6 186 ((((132 + a1) - 1)).toNatClampNeg) (-1)) 186 (((128 + a0)).toNatClampNeg)) + (v8 / 2)) < 9999 then (((tup I6 186 ((((132 + a1) - 1)).toNatClampNeg) (-1)) 186 (((128 + a0)).toNatClampNeg)) + (v8 / 2)) else 9999)) 186 (((128 + a0)).toNatClampNeg)) = q9 at hq
        obtain ⟨v9, _, _⟩ := q9
        dsimp only at hq
        refine pq_1 rfl rfl rfl rfl (f206_185_pq hB hc9) ?_
        rintro _ I9 J9 ⟨rfl, rfl, rfl⟩
        subst hq
        exact pq_2i (x := v9) rfl ⟨rfl, rfl, rfl⟩
      · rw [h7, cond_false] at hq
        refine pq_s hB 2 (pc' := 34) (L' := [(0, .ref 185), (1, .int a0), (2, .int a1)]) (st' := [.int 7, .ref 185]) (I' := I6) (J' := J6) (by with_unfolding_all rfl) ?_
        generalize hc10 : f205_185 I6 J6 7 = q10 at hq
        obtain ⟨v10, _, _⟩ := q10
        dsimp only at hq
        refine pq_1 rfl rfl rfl rfl (f205_185_pq hB hc10) ?_
        rintro _ I10 J10 ⟨rfl, rfl, rfl⟩
        subst hq
        exact pq_2i (x := v10) rfl ⟨rfl, rfl, rfl⟩
    · rw [h5, cond_false] at hq
      refine pq_s hB 2 (pc' := 18) (L' := [(0, .ref 185), (1, .int a0), (2, .int a1)]) (st' := [.int 1, .ref 185]) (I' := I4) (J' := J4) (by with_unfolding_all rfl) ?_
      generalize hc11 : f205_185 I4 J4 1 = q11 at hq
      obtain ⟨v11, _, _⟩ := q11
      dsimp only at hq
      refine pq_1 rfl rfl rfl rfl (f205_185_pq hB hc11) ?_
      rintro _ I11 J11 ⟨rfl, rfl, rfl⟩
      subst hq
      exact pq_2i (x := v11) rfl ⟨rfl, rfl, rfl⟩
-- LPModel.earn
def f291_185 (I : tI) (J : tJ) (a0 : Int32) (a1 : Int32) : Int32 × tI × tJ :=
  (match f256_185 I J a0 with | (v1, I1, J1) => bif xcmp .eq v1 0 then (match f205_185 I1 J1 1 with | (v3, I3, J3) => (v3, I3, J3)) else (match f216 I1 J1 ((a1).toInt64) 1 999 with | (v4, I4, J4) => bif xcmp .ne v4 0 then (bif xcmp .le ((I4 186 ((128 + a0)).toNatClampNeg) + a1) 9999 then (match f206_185 (tup I4 186 (((128 + a0)).toNatClampNeg) ((I4 186 ((128 + a0)).toNatClampNeg) + a1)) J4 ((tup I4 186 (((128 + a0)).toNatClampNeg) ((I4 186 ((128 + a0)).toNatClampNeg) + a1)) 186 (((128 + a0)).toNatClampNeg)) with | (v7, I7, J7) => (v7, I7, J7)) else (match f205_185 I4 J4 7 with | (v8, I8, J8) => (v8, I8, J8))) else (match f205_185 I4 J4 1 with | (v9, I9, J9) => (v9, I9, J9))))
set_option maxRecDepth 100000 in
theorem f291_185_pq {sc : List Int32} {B : xM} {n : Nat} {I : tI} {J : tJ} {a0 : Int32} {a1 : Int32} (hB : kB pT B) : ∀ {q : Int32 × tI × tJ}, f291_185 I J a0 a1 = q → pq sc B n (xt_291, 3, 1) 0 [(0, .ref 185), (1, .int a0), (2, .int a1)] [] I J (fun v I1 J1 => v = some (.int q.1) ∧ I1 = q.2.1 ∧ J1 = q.2.2) := by
  intro q hq
  unfold f291_185 at hq
  refine pq_s hB 2 (pc' := 2) (L' := [(0, .ref 185), (1, .int a0), (2, .int a1)]) (st' := [.int a0, .ref 185]) (I' := I) (J' := J) (by with_unfolding_all rfl) ?_
  generalize hc1 : f256_185 I J a0 = q1 at hq
  obtain ⟨v1, _, _⟩ := q1
  dsimp only at hq
  refine pq_1 rfl rfl rfl rfl (f256_185_pq hB hc1) ?_
  rintro _ I1 J1 ⟨rfl, rfl, rfl⟩
  refine pq_ifn hB rfl (fun h2 => ?_) (fun h2 => ?_)
  · rw [h2, cond_true] at hq
    refine pq_s hB 2 (pc' := 22) (L' := [(0, .ref 185), (1, .int a0), (2, .int a1)]) (st' := [.int 1, .ref 185]) (I' := I1) (J' := J1) (by with_unfolding_all rfl) ?_
    generalize hc3 : f205_185 I1 J1 1 = q3 at hq
    obtain ⟨v3, _, _⟩ := q3
    dsimp only at hq
    refine pq_1 rfl rfl rfl rfl (f205_185_pq hB hc3) ?_
    rintro _ I3 J3 ⟨rfl, rfl, rfl⟩
    subst hq
    exact pq_2i (x := v3) rfl ⟨rfl, rfl, rfl⟩
  · rw [h2, cond_false] at hq
    refine pq_s hB 4 (pc' := 14) (L' := [(0, .ref 185), (1, .int a0), (2, .int a1)]) (st' := [.long 999, .long 1, .long (a1).toInt64]) (I' := I1) (J' := J1) (by with_unfolding_all rfl) ?_
    generalize hc4 : f216 I1 J1 ((a1).toInt64) 1 999 = q4 at hq
    obtain ⟨v4, _, _⟩ := q4
    dsimp only at hq
    refine pq_1 rfl rfl rfl rfl (f216_pq hB hc4) ?_
    rintro _ I4 J4 ⟨rfl, rfl, rfl⟩
    refine pq_ifn hB rfl (fun h5 => ?_) (fun h5 => ?_)
    · rw [h5, cond_true] at hq
      refine pq_s hB 9 (pc' := 41) (L' := [(0, .ref 185), (1, .int a0), (2, .int a1)]) (st' := [.int 9999, .int ((I4 186 ((128 + a0)).toNatClampNeg) + a1)]) (I' := I4) (J' := J4) (by with_unfolding_all rfl) ?_
      refine pq_icn hB rfl (fun h6 => ?_) (fun h6 => ?_)
      · rw [h6, cond_true] at hq
        refine pq_s hB 17 (pc' := 76) (L' := [(0, .ref 185), (1, .int a0), (2, .int a1)]) (st' := [.int ((tup I4 186 (((128 + a0)).toNatClampNeg) ((I4 186 ((128 + a0)).toNatClampNeg) + a1)) 186 (((128 + a0)).toNatClampNeg)), .ref 185]) (I' := (tup I4 186 (((128 + a0)).toNatClampNeg) ((I4 186 ((128 + a0)).toNatClampNeg) + a1))) (J' := J4) (by with_unfolding_all rfl) ?_
        generalize hc7 : f206_185 (tup I4 186 (((128 + a0)).toNatClampNeg) ((I4 186 ((128 + a0)).toNatClampNeg) + a1)) J4 ((tup I4 186 (((128 + a0)).toNatClampNeg) ((I4 186 ((128 + a0)).toNatClampNeg) + a1)) 186 (((128 + a0)).toNatClampNeg)) = q7 at hq
        obtain ⟨v7, _, _⟩ := q7
        dsimp only at hq
        refine pq_1 rfl rfl rfl rfl (f206_185_pq hB hc7) ?_
        rintro _ I7 J7 ⟨rfl, rfl, rfl⟩
        subst hq
        exact pq_2i (x := v7) rfl ⟨rfl, rfl, rfl⟩
      · rw [h6, cond_false] at hq
        refine pq_s hB 2 (pc' := 47) (L' := [(0, .ref 185), (1, .int a0), (2, .int a1)]) (st' := [.int 7, .ref 185]) (I' := I4) (J' := J4) (by with_unfolding_all rfl) ?_
        generalize hc8 : f205_185 I4 J4 7 = q8 at hq
        obtain ⟨v8, _, _⟩ := q8
        dsimp only at hq
        refine pq_1 rfl rfl rfl rfl (f205_185_pq hB hc8) ?_
        rintro _ I8 J8 ⟨rfl, rfl, rfl⟩
        subst hq
        exact pq_2i (x := v8) rfl ⟨rfl, rfl, rfl⟩
    · rw [h5, cond_false] at hq
      refine pq_s hB 2 (pc' := 22) (L' := [(0, .ref 185), (1, .int a0), (2, .int a1)]) (st' := [.int 1, .ref 185]) (I' := I4) (J' := J4) (by with_unfolding_all rfl) ?_
      generalize hc9 : f205_185 I4 J4 1 = q9 at hq
      obtain ⟨v9, _, _⟩ := q9
      dsimp only at hq
      refine pq_1 rfl rfl rfl rfl (f205_185_pq hB hc9) ?_
      rintro _ I9 J9 ⟨rfl, rfl, rfl⟩
      subst hq
      exact pq_2i (x := v9) rfl ⟨rfl, rfl, rfl⟩
-- LPModel.build
def f293_185 (N : Nat) (I : tI) (J : tJ) (a0 : Int32) (a1 : Int32) (a2 : Int32) : Option (Int32 × tI × tJ) :=
  (match f253_185 I J a0 a1 with | (v1, I1, J1) => bif xcmp .ne v1 0 then (match f264_185 N I1 J1 ((6 * a1) + a0) with | none => none | some (v3, I3, J3) => bif xcmp .ne v3 (-1) then (match f204_185 I3 J3 7 with | (v5, I5, J5) => some (v5, I5, J5)) else (match f262_185 I3 J3 ((6 * a1) + a0) with | (v6, I6, J6) => bif xcmp .ne v6 a2 then (bif xcmp .eq a2 0 then (match f204_185 (tup I6 186 (((10 + ((6 * a1) + a0))).toNatClampNeg) 0) J6 0 with | (v9, I9, J9) => some (v9, I9, J9)) else (match f204_185 (tup I6 186 (((10 + ((6 * a1) + a0))).toNatClampNeg) 1) J6 0 with | (v10, I10, J10) => some (v10, I10, J10))) else (match f204_185 I6 J6 7 with | (v11, I11, J11) => some (v11, I11, J11)))) else (match f204_185 I1 J1 1 with | (v12, I12, J12) => some (v12, I12, J12)))
set_option maxRecDepth 100000 in
theorem f293_185_pq {sc : List Int32} {B : xM} {N : Nat} {I : tI} {J : tJ} {a0 : Int32} {a1 : Int32} {a2 : Int32} (hB : kB pT B) : ∀ {X : Option (Int32 × tI × tJ)}, f293_185 N I J a0 a1 a2 = X → pq sc B N (xt_293, 5, 3) 0 [(0, .ref 185), (1, .int a0), (2, .int a1), (3, .int a2)] [] I J (fun v I1 J1 => ∃ a, v = some (.int a) ∧ X = some (a, I1, J1)) := by
  intro X hq
  unfold f293_185 at hq
  have hle : N ≤ N := Nat.le_refl N
  refine pq_s hB 3 (pc' := 3) (L' := [(0, .ref 185), (1, .int a0), (2, .int a1), (3, .int a2)]) (st' := [.int a1, .int a0, .ref 185]) (I' := I) (J' := J) (by with_unfolding_all rfl) ?_
  generalize hc1 : f253_185 I J a0 a1 = q1 at hq
  obtain ⟨v1, _, _⟩ := q1
  dsimp only at hq
  refine pq_1 rfl rfl rfl rfl (f253_185_pq hB hc1) ?_
  rintro _ I1 J1 ⟨rfl, rfl, rfl⟩
  refine pq_ifn hB rfl (fun h2 => ?_) (fun h2 => ?_)
  · rw [h2, cond_true] at hq
    refine pq_s hB 8 (pc' := 26) (L' := [(4, .int ((6 * a1) + a0)), (0, .ref 185), (1, .int a0), (2, .int a1), (3, .int a2)]) (st' := [.int ((6 * a1) + a0), .ref 185]) (I' := I1) (J' := J1) (by with_unfolding_all rfl) ?_
    refine pq_1 rfl rfl rfl rfl (pq_le hle (f264_185_pq hB rfl)) ?_
    rintro _ I3 J3 ⟨v3, rfl, hc3⟩
    rw [hc3] at hq
    dsimp only at hq
    refine pq_s hB 1 (pc' := 30) (L' := [(4, .int ((6 * a1) + a0)), (0, .ref 185), (1, .int a0), (2, .int a1), (3, .int a2)]) (st' := [.int (-1), .int v3]) (I' := I3) (J' := J3) (by with_unfolding_all rfl) ?_
    refine pq_icn hB rfl (fun h4 => ?_) (fun h4 => ?_)
    · rw [h4, cond_true] at hq
      refine pq_s hB 2 (pc' := 46) (L' := [(4, .int ((6 * a1) + a0)), (0, .ref 185), (1, .int a0), (2, .int a1), (3, .int a2)]) (st' := [.int 7, .ref 185]) (I' := I3) (J' := J3) (by with_unfolding_all rfl) ?_
      generalize hc5 : f204_185 I3 J3 7 = q5 at hq
      obtain ⟨v5, _, _⟩ := q5
      dsimp only at hq
      refine pq_1 rfl rfl rfl rfl (f204_185_pq hB hc5) ?_
      rintro _ I5 J5 ⟨rfl, rfl, rfl⟩
      subst hq
      exact pq_2i (x := v5) rfl ⟨_, rfl, rfl⟩
    · rw [h4, cond_false] at hq
      refine pq_s hB 2 (pc' := 36) (L' := [(4, .int ((6 * a1) + a0)), (0, .ref 185), (1, .int a0), (2, .int a1), (3, .int a2)]) (st' := [.int ((6 * a1) + a0), .ref 185]) (I' := I3) (J' := J3) (by with_unfolding_all rfl) ?_
      generalize hc6 : f262_185 I3 J3 ((6 * a1) + a0) = q6 at hq
      obtain ⟨v6, _, _⟩ := q6
      dsimp only at hq
      refine pq_1 rfl rfl rfl rfl (f262_185_pq hB hc6) ?_
      rintro _ I6 J6 ⟨rfl, rfl, rfl⟩
      refine pq_s hB 1 (pc' := 40) (L' := [(4, .int ((6 * a1) + a0)), (0, .ref 185), (1, .int a0), (2, .int a1), (3, .int a2)]) (st' := [.int a2, .int v6]) (I' := I6) (J' := J6) (by with_unfolding_all rfl) ?_
      refine pq_icn hB rfl (fun h7 => ?_) (fun h7 => ?_)
      · rw [h7, cond_true] at hq
        refine pq_s hB 6 (pc' := 60) (L' := [(4, .int ((6 * a1) + a0)), (0, .ref 185), (1, .int a0), (2, .int a1), (3, .int a2)]) (st' := [.int a2, .int (10 + ((6 * a1) + a0)), .ref 186]) (I' := I6) (J' := J6) (by with_unfolding_all rfl) ?_
        refine pq_ifn hB rfl (fun h8 => ?_) (fun h8 => ?_)
        · rw [h8, cond_true] at hq
          refine pq_s hB 4 (pc' := 71) (L' := [(4, .int ((6 * a1) + a0)), (0, .ref 185), (1, .int a0), (2, .int a1), (3, .int a2)]) (st' := [.int 0, .ref 185]) (I' := (tup I6 186 (((10 + ((6 * a1) + a0))).toNatClampNeg) 0)) (J' := J6) (by with_unfolding_all rfl) ?_
          generalize hc9 : f204_185 (tup I6 186 (((10 + ((6 * a1) + a0))).toNatClampNeg) 0) J6 0 = q9 at hq
          obtain ⟨v9, _, _⟩ := q9
          dsimp only at hq
          refine pq_1 rfl rfl rfl rfl (f204_185_pq hB hc9) ?_
          rintro _ I9 J9 ⟨rfl, rfl, rfl⟩
          subst hq
          exact pq_2i (x := v9) rfl ⟨_, rfl, rfl⟩
        · rw [h8, cond_false] at hq
          refine pq_s hB 5 (pc' := 71) (L' := [(4, .int ((6 * a1) + a0)), (0, .ref 185), (1, .int a0), (2, .int a1), (3, .int a2)]) (st' := [.int 0, .ref 185]) (I' := (tup I6 186 (((10 + ((6 * a1) + a0))).toNatClampNeg) 1)) (J' := J6) (by with_unfolding_all rfl) ?_
          generalize hc10 : f204_185 (tup I6 186 (((10 + ((6 * a1) + a0))).toNatClampNeg) 1) J6 0 = q10 at hq
          obtain ⟨v10, _, _⟩ := q10
          dsimp only at hq
          refine pq_1 rfl rfl rfl rfl (f204_185_pq hB hc10) ?_
          rintro _ I10 J10 ⟨rfl, rfl, rfl⟩
          subst hq
          exact pq_2i (x := v10) rfl ⟨_, rfl, rfl⟩
      · rw [h7, cond_false] at hq
        refine pq_s hB 2 (pc' := 46) (L' := [(4, .int ((6 * a1) + a0)), (0, .ref 185), (1, .int a0), (2, .int a1), (3, .int a2)]) (st' := [.int 7, .ref 185]) (I' := I6) (J' := J6) (by with_unfolding_all rfl) ?_
        generalize hc11 : f204_185 I6 J6 7 = q11 at hq
        obtain ⟨v11, _, _⟩ := q11
        dsimp only at hq
        refine pq_1 rfl rfl rfl rfl (f204_185_pq hB hc11) ?_
        rintro _ I11 J11 ⟨rfl, rfl, rfl⟩
        subst hq
        exact pq_2i (x := v11) rfl ⟨_, rfl, rfl⟩
  · rw [h2, cond_false] at hq
    refine pq_s hB 2 (pc' := 11) (L' := [(0, .ref 185), (1, .int a0), (2, .int a1), (3, .int a2)]) (st' := [.int 1, .ref 185]) (I' := I1) (J' := J1) (by with_unfolding_all rfl) ?_
    generalize hc12 : f204_185 I1 J1 1 = q12 at hq
    obtain ⟨v12, _, _⟩ := q12
    dsimp only at hq
    refine pq_1 rfl rfl rfl rfl (f204_185_pq hB hc12) ?_
    rintro _ I12 J12 ⟨rfl, rfl, rfl⟩
    subst hq
    exact pq_2i (x := v12) rfl ⟨_, rfl, rfl⟩
-- LPModel.place
def f295_185 (N : Nat) (I : tI) (J : tJ) (a0 : Int32) (a1 : Int32) (a2 : Int32) : Option (Int32 × tI × tJ) :=
  (match f254_185 I J a0 with | (v1, I1, J1) => bif xcmp .eq v1 0 then (match f204_185 I1 J1 1 with | (v3, I3, J3) => some (v3, I3, J3)) else (match f253_185 I1 J1 a1 a2 with | (v4, I4, J4) => bif xcmp .ne v4 0 then (match f261_185 I4 J4 a0 with | (v6, I6, J6) => bif xcmp .eq v6 0 then (match f204_185 I6 J6 7 with | (v8, I8, J8) => some (v8, I8, J8)) else (match f262_185 I6 J6 ((6 * a2) + a1) with | (v9, I9, J9) => bif xcmp .ne v9 0 then (match f204_185 I9 J9 7 with | (v11, I11, J11) => some (v11, I11, J11)) else (match f264_185 N I9 J9 ((6 * a2) + a1) with | none => none | some (v12, I12, J12) => bif xcmp .eq v12 (-1) then (match f251 I12 J12 a0 with | (v14, I14, J14) => (match f204_185 (tup I14 186 (((v14 + 5)).toNatClampNeg) ((6 * a2) + a1)) J14 0 with | (v15, I15, J15) => some (v15, I15, J15))) else (match f204_185 I12 J12 7 with | (v16, I16, J16) => some (v16, I16, J16))))) else (match f204_185 I4 J4 1 with | (v17, I17, J17) => some (v17, I17, J17))))
set_option maxRecDepth 100000 in
theorem f295_185_pq {sc : List Int32} {B : xM} {N : Nat} {I : tI} {J : tJ} {a0 : Int32} {a1 : Int32} {a2 : Int32} (hB : kB pT B) : ∀ {X : Option (Int32 × tI × tJ)}, f295_185 N I J a0 a1 a2 = X → pq sc B N (xt_295, 5, 3) 0 [(0, .ref 185), (1, .int a0), (2, .int a1), (3, .int a2)] [] I J (fun v I1 J1 => ∃ a, v = some (.int a) ∧ X = some (a, I1, J1)) := by
  intro X hq
  unfold f295_185 at hq
  have hle : N ≤ N := Nat.le_refl N
  refine pq_s hB 2 (pc' := 2) (L' := [(0, .ref 185), (1, .int a0), (2, .int a1), (3, .int a2)]) (st' := [.int a0, .ref 185]) (I' := I) (J' := J) (by with_unfolding_all rfl) ?_
  generalize hc1 : f254_185 I J a0 = q1 at hq
  obtain ⟨v1, _, _⟩ := q1
  dsimp only at hq
  refine pq_1 rfl rfl rfl rfl (f254_185_pq hB hc1) ?_
  rintro _ I1 J1 ⟨rfl, rfl, rfl⟩
  refine pq_ifn hB rfl (fun h2 => ?_) (fun h2 => ?_)
  · rw [h2, cond_true] at hq
    refine pq_s hB 2 (pc' := 19) (L' := [(0, .ref 185), (1, .int a0), (2, .int a1), (3, .int a2)]) (st' := [.int 1, .ref 185]) (I' := I1) (J' := J1) (by with_unfolding_all rfl) ?_
    generalize hc3 : f204_185 I1 J1 1 = q3 at hq
    obtain ⟨v3, _, _⟩ := q3
    dsimp only at hq
    refine pq_1 rfl rfl rfl rfl (f204_185_pq hB hc3) ?_
    rintro _ I3 J3 ⟨rfl, rfl, rfl⟩
    subst hq
    exact pq_2i (x := v3) rfl ⟨_, rfl, rfl⟩
  · rw [h2, cond_false] at hq
    refine pq_s hB 3 (pc' := 11) (L' := [(0, .ref 185), (1, .int a0), (2, .int a1), (3, .int a2)]) (st' := [.int a2, .int a1, .ref 185]) (I' := I1) (J' := J1) (by with_unfolding_all rfl) ?_
    generalize hc4 : f253_185 I1 J1 a1 a2 = q4 at hq
    obtain ⟨v4, _, _⟩ := q4
    dsimp only at hq
    refine pq_1 rfl rfl rfl rfl (f253_185_pq hB hc4) ?_
    rintro _ I4 J4 ⟨rfl, rfl, rfl⟩
    refine pq_ifn hB rfl (fun h5 => ?_) (fun h5 => ?_)
    · rw [h5, cond_true] at hq
      refine pq_s hB 8 (pc' := 33) (L' := [(4, .int ((6 * a2) + a1)), (0, .ref 185), (1, .int a0), (2, .int a1), (3, .int a2)]) (st' := [.int a0, .ref 185]) (I' := I4) (J' := J4) (by with_unfolding_all rfl) ?_
      generalize hc6 : f261_185 I4 J4 a0 = q6 at hq
      obtain ⟨v6, _, _⟩ := q6
      dsimp only at hq
      refine pq_1 rfl rfl rfl rfl (f261_185_pq hB hc6) ?_
      rintro _ I6 J6 ⟨rfl, rfl, rfl⟩
      refine pq_ifn hB rfl (fun h7 => ?_) (fun h7 => ?_)
      · rw [h7, cond_true] at hq
        refine pq_s hB 2 (pc' := 61) (L' := [(4, .int ((6 * a2) + a1)), (0, .ref 185), (1, .int a0), (2, .int a1), (3, .int a2)]) (st' := [.int 7, .ref 185]) (I' := I6) (J' := J6) (by with_unfolding_all rfl) ?_
        generalize hc8 : f204_185 I6 J6 7 = q8 at hq
        obtain ⟨v8, _, _⟩ := q8
        dsimp only at hq
        refine pq_1 rfl rfl rfl rfl (f204_185_pq hB hc8) ?_
        rintro _ I8 J8 ⟨rfl, rfl, rfl⟩
        subst hq
        exact pq_2i (x := v8) rfl ⟨_, rfl, rfl⟩
      · rw [h7, cond_false] at hq
        refine pq_s hB 2 (pc' := 42) (L' := [(4, .int ((6 * a2) + a1)), (0, .ref 185), (1, .int a0), (2, .int a1), (3, .int a2)]) (st' := [.int ((6 * a2) + a1), .ref 185]) (I' := I6) (J' := J6) (by with_unfolding_all rfl) ?_
        generalize hc9 : f262_185 I6 J6 ((6 * a2) + a1) = q9 at hq
        obtain ⟨v9, _, _⟩ := q9
        dsimp only at hq
        refine pq_1 rfl rfl rfl rfl (f262_185_pq hB hc9) ?_
        rintro _ I9 J9 ⟨rfl, rfl, rfl⟩
        refine pq_ifn hB rfl (fun h10 => ?_) (fun h10 => ?_)
        · rw [h10, cond_true] at hq
          refine pq_s hB 2 (pc' := 61) (L' := [(4, .int ((6 * a2) + a1)), (0, .ref 185), (1, .int a0), (2, .int a1), (3, .int a2)]) (st' := [.int 7, .ref 185]) (I' := I9) (J' := J9) (by with_unfolding_all rfl) ?_
          generalize hc11 : f204_185 I9 J9 7 = q11 at hq
          obtain ⟨v11, _, _⟩ := q11
          dsimp only at hq
          refine pq_1 rfl rfl rfl rfl (f204_185_pq hB hc11) ?_
          rintro _ I11 J11 ⟨rfl, rfl, rfl⟩
          subst hq
          exact pq_2i (x := v11) rfl ⟨_, rfl, rfl⟩
        · rw [h10, cond_false] at hq
          refine pq_s hB 2 (pc' := 51) (L' := [(4, .int ((6 * a2) + a1)), (0, .ref 185), (1, .int a0), (2, .int a1), (3, .int a2)]) (st' := [.int ((6 * a2) + a1), .ref 185]) (I' := I9) (J' := J9) (by with_unfolding_all rfl) ?_
          refine pq_1 rfl rfl rfl rfl (pq_le hle (f264_185_pq hB rfl)) ?_
          rintro _ I12 J12 ⟨v12, rfl, hc12⟩
          rw [hc12] at hq
          dsimp only at hq
          refine pq_s hB 1 (pc' := 55) (L' := [(4, .int ((6 * a2) + a1)), (0, .ref 185), (1, .int a0), (2, .int a1), (3, .int a2)]) (st' := [.int (-1), .int v12]) (I' := I12) (J' := J12) (by with_unfolding_all rfl) ?_
          refine pq_icn hB rfl (fun h13 => ?_) (fun h13 => ?_)
          · rw [h13, cond_true] at hq
            refine pq_s hB 3 (pc' := 70) (L' := [(4, .int ((6 * a2) + a1)), (0, .ref 185), (1, .int a0), (2, .int a1), (3, .int a2)]) (st' := [.int a0, .ref 186]) (I' := I12) (J' := J12) (by with_unfolding_all rfl) ?_
            generalize hc14 : f251 I12 J12 a0 = q14 at hq
            obtain ⟨v14, _, _⟩ := q14
            dsimp only at hq
            refine pq_1 rfl rfl rfl rfl (f251_pq hB hc14) ?_
            rintro _ I14 J14 ⟨rfl, rfl, rfl⟩
            refine pq_s hB 6 (pc' := 80) (L' := [(4, .int ((6 * a2) + a1)), (0, .ref 185), (1, .int a0), (2, .int a1), (3, .int a2)]) (st' := [.int 0, .ref 185]) (I' := (tup I14 186 (((v14 + 5)).toNatClampNeg) ((6 * a2) + a1))) (J' := J14) (by with_unfolding_all rfl) ?_
            generalize hc15 : f204_185 (tup I14 186 (((v14 + 5)).toNatClampNeg) ((6 * a2) + a1)) J14 0 = q15 at hq
            obtain ⟨v15, _, _⟩ := q15
            dsimp only at hq
            refine pq_1 rfl rfl rfl rfl (f204_185_pq hB hc15) ?_
            rintro _ I15 J15 ⟨rfl, rfl, rfl⟩
            subst hq
            exact pq_2i (x := v15) rfl ⟨_, rfl, rfl⟩
          · rw [h13, cond_false] at hq
            refine pq_s hB 2 (pc' := 61) (L' := [(4, .int ((6 * a2) + a1)), (0, .ref 185), (1, .int a0), (2, .int a1), (3, .int a2)]) (st' := [.int 7, .ref 185]) (I' := I12) (J' := J12) (by with_unfolding_all rfl) ?_
            generalize hc16 : f204_185 I12 J12 7 = q16 at hq
            obtain ⟨v16, _, _⟩ := q16
            dsimp only at hq
            refine pq_1 rfl rfl rfl rfl (f204_185_pq hB hc16) ?_
            rintro _ I16 J16 ⟨rfl, rfl, rfl⟩
            subst hq
            exact pq_2i (x := v16) rfl ⟨_, rfl, rfl⟩
    · rw [h5, cond_false] at hq
      refine pq_s hB 2 (pc' := 19) (L' := [(0, .ref 185), (1, .int a0), (2, .int a1), (3, .int a2)]) (st' := [.int 1, .ref 185]) (I' := I4) (J' := J4) (by with_unfolding_all rfl) ?_
      generalize hc17 : f204_185 I4 J4 1 = q17 at hq
      obtain ⟨v17, _, _⟩ := q17
      dsimp only at hq
      refine pq_1 rfl rfl rfl rfl (f204_185_pq hB hc17) ?_
      rintro _ I17 J17 ⟨rfl, rfl, rfl⟩
      subst hq
      exact pq_2i (x := v17) rfl ⟨_, rfl, rfl⟩
-- LPModel.who
def f273_185 (N : Nat) (I : tI) (J : tJ) (a0 : Int32) (a1 : Int32) : Option (Int32 × tI × tJ) :=
  (match f253_185 I J a0 a1 with | (v1, I1, J1) => bif xcmp .eq v1 0 then (match f205_185 I1 J1 1 with | (v3, I3, J3) => some (v3, I3, J3)) else (match f264_185 N I1 J1 ((6 * a1) + a0) with | none => none | some (v4, I4, J4) => (match f207_185 I4 J4 v4 with | (v5, I5, J5) => some (v5, I5, J5))))
set_option maxRecDepth 100000 in
theorem f273_185_pq {sc : List Int32} {B : xM} {N : Nat} {I : tI} {J : tJ} {a0 : Int32} {a1 : Int32} (hB : kB pT B) : ∀ {X : Option (Int32 × tI × tJ)}, f273_185 N I J a0 a1 = X → pq sc B N (xt_273, 3, 1) 0 [(0, .ref 185), (1, .int a0), (2, .int a1)] [] I J (fun v I1 J1 => ∃ a, v = some (.int a) ∧ X = some (a, I1, J1)) := by
  intro X hq
  unfold f273_185 at hq
  have hle : N ≤ N := Nat.le_refl N
  refine pq_s hB 3 (pc' := 3) (L' := [(0, .ref 185), (1, .int a0), (2, .int a1)]) (st' := [.int a1, .int a0, .ref 185]) (I' := I) (J' := J) (by with_unfolding_all rfl) ?_
  generalize hc1 : f253_185 I J a0 a1 = q1 at hq
  obtain ⟨v1, _, _⟩ := q1
  dsimp only at hq
  refine pq_1 rfl rfl rfl rfl (f253_185_pq hB hc1) ?_
  rintro _ I1 J1 ⟨rfl, rfl, rfl⟩
  refine pq_ifn hB rfl (fun h2 => ?_) (fun h2 => ?_)
  · rw [h2, cond_true] at hq
    refine pq_s hB 2 (pc' := 28) (L' := [(0, .ref 185), (1, .int a0), (2, .int a1)]) (st' := [.int 1, .ref 185]) (I' := I1) (J' := J1) (by with_unfolding_all rfl) ?_
    generalize hc3 : f205_185 I1 J1 1 = q3 at hq
    obtain ⟨v3, _, _⟩ := q3
    dsimp only at hq
    refine pq_1 rfl rfl rfl rfl (f205_185_pq hB hc3) ?_
    rintro _ I3 J3 ⟨rfl, rfl, rfl⟩
    subst hq
    exact pq_2i (x := v3) rfl ⟨_, rfl, rfl⟩
  · rw [h2, cond_false] at hq
    refine pq_s hB 7 (pc' := 17) (L' := [(0, .ref 185), (1, .int a0), (2, .int a1)]) (st' := [.int ((6 * a1) + a0), .ref 185, .ref 185]) (I' := I1) (J' := J1) (by with_unfolding_all rfl) ?_
    refine pq_1 rfl rfl rfl rfl (pq_le hle (f264_185_pq hB rfl)) ?_
    rintro _ I4 J4 ⟨v4, rfl, hc4⟩
    rw [hc4] at hq
    dsimp only at hq
    generalize hc5 : f207_185 I4 J4 v4 = q5 at hq
    obtain ⟨v5, _, _⟩ := q5
    dsimp only at hq
    refine pq_1 rfl rfl rfl rfl (f207_185_pq hB hc5) ?_
    rintro _ I5 J5 ⟨rfl, rfl, rfl⟩
    refine pq_s hB 1 (pc' := 31) (L' := [(0, .ref 185), (1, .int a0), (2, .int a1)]) (st' := [.int v5]) (I' := I5) (J' := J5) (by with_unfolding_all rfl) ?_
    subst hq
    exact pq_2i (x := v5) rfl ⟨_, rfl, rfl⟩
-- LPModel.wall
def f274_185 (I : tI) (J : tJ) (a0 : Int32) (a1 : Int32) : Int32 × tI × tJ :=
  (match f253_185 I J a0 a1 with | (v1, I1, J1) => bif xcmp .eq v1 0 then (match f205_185 I1 J1 1 with | (v3, I3, J3) => (v3, I3, J3)) else (match f206_185 I1 J1 (I1 186 (((10 + (6 * a1)) + a0)).toNatClampNeg) with | (v4, I4, J4) => (v4, I4, J4)))
set_option maxRecDepth 100000 in
theorem f274_185_pq {sc : List Int32} {B : xM} {n : Nat} {I : tI} {J : tJ} {a0 : Int32} {a1 : Int32} (hB : kB pT B) : ∀ {q : Int32 × tI × tJ}, f274_185 I J a0 a1 = q → pq sc B n (xt_274, 3, 1) 0 [(0, .ref 185), (1, .int a0), (2, .int a1)] [] I J (fun v I1 J1 => v = some (.int q.1) ∧ I1 = q.2.1 ∧ J1 = q.2.2) := by
  intro q hq
  unfold f274_185 at hq
  refine pq_s hB 3 (pc' := 3) (L' := [(0, .ref 185), (1, .int a0), (2, .int a1)]) (st' := [.int a1, .int a0, .ref 185]) (I' := I) (J' := J) (by with_unfolding_all rfl) ?_
  generalize hc1 : f253_185 I J a0 a1 = q1 at hq
  obtain ⟨v1, _, _⟩ := q1
  dsimp only at hq
  refine pq_1 rfl rfl rfl rfl (f253_185_pq hB hc1) ?_
  rintro _ I1 J1 ⟨rfl, rfl, rfl⟩
  refine pq_ifn hB rfl (fun h2 => ?_) (fun h2 => ?_)
  · rw [h2, cond_true] at hq
    refine pq_s hB 2 (pc' := 32) (L' := [(0, .ref 185), (1, .int a0), (2, .int a1)]) (st' := [.int 1, .ref 185]) (I' := I1) (J' := J1) (by with_unfolding_all rfl) ?_
    generalize hc3 : f205_185 I1 J1 1 = q3 at hq
    obtain ⟨v3, _, _⟩ := q3
    dsimp only at hq
    refine pq_1 rfl rfl rfl rfl (f205_185_pq hB hc3) ?_
    rintro _ I3 J3 ⟨rfl, rfl, rfl⟩
    subst hq
    exact pq_2i (x := v3) rfl ⟨rfl, rfl, rfl⟩
  · rw [h2, cond_false] at hq
    refine pq_s hB 11 (pc' := 24) (L' := [(0, .ref 185), (1, .int a0), (2, .int a1)]) (st' := [.int (I1 186 (((10 + (6 * a1)) + a0)).toNatClampNeg), .ref 185]) (I' := I1) (J' := J1) (by with_unfolding_all rfl) ?_
    generalize hc4 : f206_185 I1 J1 (I1 186 (((10 + (6 * a1)) + a0)).toNatClampNeg) = q4 at hq
    obtain ⟨v4, _, _⟩ := q4
    dsimp only at hq
    refine pq_1 rfl rfl rfl rfl (f206_185_pq hB hc4) ?_
    rintro _ I4 J4 ⟨rfl, rfl, rfl⟩
    refine pq_s hB 1 (pc' := 35) (L' := [(0, .ref 185), (1, .int a0), (2, .int a1)]) (st' := [.int v4]) (I' := I4) (J' := J4) (by with_unfolding_all rfl) ?_
    subst hq
    exact pq_2i (x := v4) rfl ⟨rfl, rfl, rfl⟩
-- LPModel.person, from 41 on
def f275_185_j41 (I : tI) (J : tJ) (x1 : Int32) (x2 : Int32) (s0 : Int32) : Int32 × tI × tJ :=
  bif xcmp .ge x2 2 then (bif xcmp .ne x2 3 then (bif xcmp .ne x2 2 then (match f260_185 I J x1 3 with | (v12, I12, J12) => (match f206_185 I12 J12 v12 with | (v13, I13, J13) => (v13, I13, J13))) else (match f260_185 I J x1 1 with | (v14, I14, J14) => (match f206_185 I14 J14 v14 with | (v15, I15, J15) => (v15, I15, J15)))) else (match f260_185 I J x1 2 with | (v16, I16, J16) => (match f207_185 I16 J16 v16 with | (v17, I17, J17) => (v17, I17, J17)))) else bif xcmp .ne s0 (-1) then (bif xcmp .ne x2 0 then (match f206_185 I J (s0 / 6) with | (v20, I20, J20) => (v20, I20, J20)) else (match f206_185 I J (s0 - s0 / 6 * 6) with | (v21, I21, J21) => (v21, I21, J21))) else (match f205_185 I J 6 with | (v22, I22, J22) => (v22, I22, J22))
set_option maxRecDepth 100000 in
theorem f275_185_j41_pq {sc : List Int32} {B : xM} {n : Nat} {I : tI} {J : tJ} {x1 : Int32} {x2 : Int32} {s0 : Int32} (hB : kB pT B) : ∀ {q : Int32 × tI × tJ}, f275_185_j41 I J x1 x2 s0 = q → pq sc B n (xt_275, 4, 1) 41 [(0, .ref 185), (1, .int x1), (2, .int x2)] [.int s0] I J (fun v I1 J1 => v = some (.int q.1) ∧ I1 = q.2.1 ∧ J1 = q.2.2) := by
  intro q hq
  unfold f275_185_j41 at hq
  refine pq_s hB 3 (pc' := 44) (L' := [(3, .int s0), (0, .ref 185), (1, .int x1), (2, .int x2)]) (st' := [.int 2, .int x2]) (I' := I) (J' := J) (by with_unfolding_all rfl) ?_
  refine pq_icn hB rfl (fun h9 => ?_) (fun h9 => ?_)
  · rw [h9, cond_true] at hq
    refine pq_s hB 2 (pc' := 83) (L' := [(3, .int s0), (0, .ref 185), (1, .int x1), (2, .int x2)]) (st' := [.int 3, .int x2]) (I' := I) (J' := J) (by with_unfolding_all rfl) ?_
    refine pq_icn hB rfl (fun h10 => ?_) (fun h10 => ?_)
    · rw [h10, cond_true] at hq
      refine pq_s hB 5 (pc' := 104) (L' := [(3, .int s0), (0, .ref 185), (1, .int x1), (2, .int x2)]) (st' := [.int 2, .int x2, .int x1, .ref 185, .ref 185]) (I' := I) (J' := J) (by with_unfolding_all rfl) ?_
      refine pq_icn hB rfl (fun h11 => ?_) (fun h11 => ?_)
      · rw [h11, cond_true] at hq
        refine pq_s hB 1 (pc' := 112) (L' := [(3, .int s0), (0, .ref 185), (1, .int x1), (2, .int x2)]) (st' := [.int 3, .int x1, .ref 185, .ref 185]) (I' := I) (J' := J) (by with_unfolding_all rfl) ?_
        generalize hc12 : f260_185 I J x1 3 = q12 at hq
        obtain ⟨v12, _, _⟩ := q12
        dsimp only at hq
        refine pq_1 rfl rfl rfl rfl (f260_185_pq hB hc12) ?_
        rintro _ I12 J12 ⟨rfl, rfl, rfl⟩
        generalize hc13 : f206_185 I12 J12 v12 = q13 at hq
        obtain ⟨v13, _, _⟩ := q13
        dsimp only at hq
        refine pq_1 rfl rfl rfl rfl (f206_185_pq hB hc13) ?_
        rintro _ I13 J13 ⟨rfl, rfl, rfl⟩
        subst hq
        exact pq_2i (x := v13) rfl ⟨rfl, rfl, rfl⟩
      · rw [h11, cond_false] at hq
        refine pq_s hB 2 (pc' := 112) (L' := [(3, .int s0), (0, .ref 185), (1, .int x1), (2, .int x2)]) (st' := [.int 1, .int x1, .ref 185, .ref 185]) (I' := I) (J' := J) (by with_unfolding_all rfl) ?_
        generalize hc14 : f260_185 I J x1 1 = q14 at hq
        obtain ⟨v14, _, _⟩ := q14
        dsimp only at hq
        refine pq_1 rfl rfl rfl rfl (f260_185_pq hB hc14) ?_
        rintro _ I14 J14 ⟨rfl, rfl, rfl⟩
        generalize hc15 : f206_185 I14 J14 v14 = q15 at hq
        obtain ⟨v15, _, _⟩ := q15
        dsimp only at hq
        refine pq_1 rfl rfl rfl rfl (f206_185_pq hB hc15) ?_
        rintro _ I15 J15 ⟨rfl, rfl, rfl⟩
        subst hq
        exact pq_2i (x := v15) rfl ⟨rfl, rfl, rfl⟩
    · rw [h10, cond_false] at hq
      refine pq_s hB 4 (pc' := 90) (L' := [(3, .int s0), (0, .ref 185), (1, .int x1), (2, .int x2)]) (st' := [.int 2, .int x1, .ref 185, .ref 185]) (I' := I) (J' := J) (by with_unfolding_all rfl) ?_
      generalize hc16 : f260_185 I J x1 2 = q16 at hq
      obtain ⟨v16, _, _⟩ := q16
      dsimp only at hq
      refine pq_1 rfl rfl rfl rfl (f260_185_pq hB hc16) ?_
      rintro _ I16 J16 ⟨rfl, rfl, rfl⟩
      generalize hc17 : f207_185 I16 J16 v16 = q17 at hq
      obtain ⟨v17, _, _⟩ := q17
      dsimp only at hq
      refine pq_1 rfl rfl rfl rfl (f207_185_pq hB hc17) ?_
      rintro _ I17 J17 ⟨rfl, rfl, rfl⟩
      refine pq_s hB 1 (pc' := 118) (L' := [(3, .int s0), (0, .ref 185), (1, .int x1), (2, .int x2)]) (st' := [.int v17]) (I' := I17) (J' := J17) (by with_unfolding_all rfl) ?_
      subst hq
      exact pq_2i (x := v17) rfl ⟨rfl, rfl, rfl⟩
  · rw [h9, cond_false] at hq
    refine pq_s hB 2 (pc' := 49) (L' := [(3, .int s0), (0, .ref 185), (1, .int x1), (2, .int x2)]) (st' := [.int (-1), .int s0]) (I' := I) (J' := J) (by with_unfolding_all rfl) ?_
    refine pq_icn hB rfl (fun h18 => ?_) (fun h18 => ?_)
    · rw [h18, cond_true] at hq
      refine pq_s hB 2 (pc' := 63) (L' := [(3, .int s0), (0, .ref 185), (1, .int x1), (2, .int x2)]) (st' := [.int x2, .ref 185]) (I' := I) (J' := J) (by with_unfolding_all rfl) ?_
      refine pq_ifn hB rfl (fun h19 => ?_) (fun h19 => ?_)
      · rw [h19, cond_true] at hq
        refine pq_s hB 3 (pc' := 77) (L' := [(3, .int s0), (0, .ref 185), (1, .int x1), (2, .int x2)]) (st' := [.int (s0 / 6), .ref 185]) (I' := I) (J' := J) (by with_unfolding_all rfl) ?_
        generalize hc20 : f206_185 I J (s0 / 6) = q20 at hq
        obtain ⟨v20, _, _⟩ := q20
        dsimp only at hq
        refine pq_1 rfl rfl rfl rfl (f206_185_pq hB hc20) ?_
        rintro _ I20 J20 ⟨rfl, rfl, rfl⟩
        subst hq
        exact pq_2i (x := v20) rfl ⟨rfl, rfl, rfl⟩
      · rw [h19, cond_false] at hq
        refine pq_s hB 4 (pc' := 77) (L' := [(3, .int s0), (0, .ref 185), (1, .int x1), (2, .int x2)]) (st' := [.int (s0 - s0 / 6 * 6), .ref 185]) (I' := I) (J' := J) (by with_unfolding_all rfl) ?_
        generalize hc21 : f206_185 I J (s0 - s0 / 6 * 6) = q21 at hq
        obtain ⟨v21, _, _⟩ := q21
        dsimp only at hq
        refine pq_1 rfl rfl rfl rfl (f206_185_pq hB hc21) ?_
        rintro _ I21 J21 ⟨rfl, rfl, rfl⟩
        subst hq
        exact pq_2i (x := v21) rfl ⟨rfl, rfl, rfl⟩
    · rw [h18, cond_false] at hq
      refine pq_s hB 2 (pc' := 55) (L' := [(3, .int s0), (0, .ref 185), (1, .int x1), (2, .int x2)]) (st' := [.int 6, .ref 185]) (I' := I) (J' := J) (by with_unfolding_all rfl) ?_
      generalize hc22 : f205_185 I J 6 = q22 at hq
      obtain ⟨v22, _, _⟩ := q22
      dsimp only at hq
      refine pq_1 rfl rfl rfl rfl (f205_185_pq hB hc22) ?_
      rintro _ I22 J22 ⟨rfl, rfl, rfl⟩
      refine pq_s hB 1 (pc' := 80) (L' := [(3, .int s0), (0, .ref 185), (1, .int x1), (2, .int x2)]) (st' := [.int v22]) (I' := I22) (J' := J22) (by with_unfolding_all rfl) ?_
      subst hq
      exact pq_2i (x := v22) rfl ⟨rfl, rfl, rfl⟩
-- LPModel.person
def f275_185 (I : tI) (J : tJ) (a0 : Int32) (a1 : Int32) : Int32 × tI × tJ :=
  (match f254_185 I J a0 with | (v1, I1, J1) => bif xcmp .eq v1 0 then (match f205_185 I1 J1 1 with | (v3, I3, J3) => (v3, I3, J3)) else bif xcmp .lt a1 0 then (match f205_185 I1 J1 1 with | (v5, I5, J5) => (v5, I5, J5)) else bif xcmp .le a1 4 then (match f261_185 I1 J1 a0 with | (v7, I7, J7) => bif xcmp .eq v7 0 then f275_185_j41 I7 J7 a0 a1 (-1) else (match f260_185 I7 J7 a0 5 with | (v9, I9, J9) => f275_185_j41 I9 J9 a0 a1 v9)) else (match f205_185 I1 J1 1 with | (v10, I10, J10) => (v10, I10, J10)))
set_option maxRecDepth 100000 in
theorem f275_185_pq {sc : List Int32} {B : xM} {n : Nat} {I : tI} {J : tJ} {a0 : Int32} {a1 : Int32} (hB : kB pT B) : ∀ {q : Int32 × tI × tJ}, f275_185 I J a0 a1 = q → pq sc B n (xt_275, 4, 1) 0 [(0, .ref 185), (1, .int a0), (2, .int a1)] [] I J (fun v I1 J1 => v = some (.int q.1) ∧ I1 = q.2.1 ∧ J1 = q.2.2) := by
  intro q hq
  unfold f275_185 at hq
  refine pq_s hB 2 (pc' := 2) (L' := [(0, .ref 185), (1, .int a0), (2, .int a1)]) (st' := [.int a0, .ref 185]) (I' := I) (J' := J) (by with_unfolding_all rfl) ?_
  generalize hc1 : f254_185 I J a0 = q1 at hq
  obtain ⟨v1, _, _⟩ := q1
  dsimp only at hq
  refine pq_1 rfl rfl rfl rfl (f254_185_pq hB hc1) ?_
  rintro _ I1 J1 ⟨rfl, rfl, rfl⟩
  refine pq_ifn hB rfl (fun h2 => ?_) (fun h2 => ?_)
  · rw [h2, cond_true] at hq
    refine pq_s hB 2 (pc' := 19) (L' := [(0, .ref 185), (1, .int a0), (2, .int a1)]) (st' := [.int 1, .ref 185]) (I' := I1) (J' := J1) (by with_unfolding_all rfl) ?_
    generalize hc3 : f205_185 I1 J1 1 = q3 at hq
    obtain ⟨v3, _, _⟩ := q3
    dsimp only at hq
    refine pq_1 rfl rfl rfl rfl (f205_185_pq hB hc3) ?_
    rintro _ I3 J3 ⟨rfl, rfl, rfl⟩
    subst hq
    exact pq_2i (x := v3) rfl ⟨rfl, rfl, rfl⟩
  · rw [h2, cond_false] at hq
    refine pq_s hB 1 (pc' := 9) (L' := [(0, .ref 185), (1, .int a0), (2, .int a1)]) (st' := [.int a1]) (I' := I1) (J' := J1) (by with_unfolding_all rfl) ?_
    refine pq_ifn hB rfl (fun h4 => ?_) (fun h4 => ?_)
    · rw [h4, cond_true] at hq
      refine pq_s hB 2 (pc' := 19) (L' := [(0, .ref 185), (1, .int a0), (2, .int a1)]) (st' := [.int 1, .ref 185]) (I' := I1) (J' := J1) (by with_unfolding_all rfl) ?_
      generalize hc5 : f205_185 I1 J1 1 = q5 at hq
      obtain ⟨v5, _, _⟩ := q5
      dsimp only at hq
      refine pq_1 rfl rfl rfl rfl (f205_185_pq hB hc5) ?_
      rintro _ I5 J5 ⟨rfl, rfl, rfl⟩
      subst hq
      exact pq_2i (x := v5) rfl ⟨rfl, rfl, rfl⟩
    · rw [h4, cond_false] at hq
      refine pq_s hB 2 (pc' := 14) (L' := [(0, .ref 185), (1, .int a0), (2, .int a1)]) (st' := [.int 4, .int a1]) (I' := I1) (J' := J1) (by with_unfolding_all rfl) ?_
      refine pq_icn hB rfl (fun h6 => ?_) (fun h6 => ?_)
      · rw [h6, cond_true] at hq
        refine pq_s hB 2 (pc' := 25) (L' := [(0, .ref 185), (1, .int a0), (2, .int a1)]) (st' := [.int a0, .ref 185]) (I' := I1) (J' := J1) (by with_unfolding_all rfl) ?_
        generalize hc7 : f261_185 I1 J1 a0 = q7 at hq
        obtain ⟨v7, _, _⟩ := q7
        dsimp only at hq
        refine pq_1 rfl rfl rfl rfl (f261_185_pq hB hc7) ?_
        rintro _ I7 J7 ⟨rfl, rfl, rfl⟩
        refine pq_ifn hB rfl (fun h8 => ?_) (fun h8 => ?_)
        · rw [h8, cond_true] at hq
          refine pq_s hB 1 (pc' := 41) (L' := [(0, .ref 185), (1, .int a0), (2, .int a1)]) (st' := [.int (-1)]) (I' := I7) (J' := J7) (by with_unfolding_all rfl) ?_
          exact f275_185_j41_pq hB hq
        · rw [h8, cond_false] at hq
          refine pq_s hB 3 (pc' := 34) (L' := [(0, .ref 185), (1, .int a0), (2, .int a1)]) (st' := [.int 5, .int a0, .ref 185]) (I' := I7) (J' := J7) (by with_unfolding_all rfl) ?_
          generalize hc9 : f260_185 I7 J7 a0 5 = q9 at hq
          obtain ⟨v9, _, _⟩ := q9
          dsimp only at hq
          refine pq_1 rfl rfl rfl rfl (f260_185_pq hB hc9) ?_
          rintro _ I9 J9 ⟨rfl, rfl, rfl⟩
          refine pq_s hB 1 (pc' := 41) (L' := [(0, .ref 185), (1, .int a0), (2, .int a1)]) (st' := [.int v9]) (I' := I9) (J' := J9) (by with_unfolding_all rfl) ?_
          exact f275_185_j41_pq hB hq
      · rw [h6, cond_false] at hq
        refine pq_s hB 2 (pc' := 19) (L' := [(0, .ref 185), (1, .int a0), (2, .int a1)]) (st' := [.int 1, .ref 185]) (I' := I1) (J' := J1) (by with_unfolding_all rfl) ?_
        generalize hc10 : f205_185 I1 J1 1 = q10 at hq
        obtain ⟨v10, _, _⟩ := q10
        dsimp only at hq
        refine pq_1 rfl rfl rfl rfl (f205_185_pq hB hc10) ?_
        rintro _ I10 J10 ⟨rfl, rfl, rfl⟩
        subst hq
        exact pq_2i (x := v10) rfl ⟨rfl, rfl, rfl⟩
-- LPModel.coins
def f278_185 (I : tI) (J : tJ) (a0 : Int32) : Int32 × tI × tJ :=
  (match f256_185 I J a0 with | (v1, I1, J1) => bif xcmp .eq v1 0 then (match f205_185 I1 J1 1 with | (v3, I3, J3) => (v3, I3, J3)) else (match f206_185 I1 J1 (I1 186 ((128 + a0)).toNatClampNeg) with | (v4, I4, J4) => (v4, I4, J4)))
set_option maxRecDepth 100000 in
theorem f278_185_pq {sc : List Int32} {B : xM} {n : Nat} {I : tI} {J : tJ} {a0 : Int32} (hB : kB pT B) : ∀ {q : Int32 × tI × tJ}, f278_185 I J a0 = q → pq sc B n (xt_278, 2, 1) 0 [(0, .ref 185), (1, .int a0)] [] I J (fun v I1 J1 => v = some (.int q.1) ∧ I1 = q.2.1 ∧ J1 = q.2.2) := by
  intro q hq
  unfold f278_185 at hq
  refine pq_s hB 2 (pc' := 2) (L' := [(0, .ref 185), (1, .int a0)]) (st' := [.int a0, .ref 185]) (I' := I) (J' := J) (by with_unfolding_all rfl) ?_
  generalize hc1 : f256_185 I J a0 = q1 at hq
  obtain ⟨v1, _, _⟩ := q1
  dsimp only at hq
  refine pq_1 rfl rfl rfl rfl (f256_185_pq hB hc1) ?_
  rintro _ I1 J1 ⟨rfl, rfl, rfl⟩
  refine pq_ifn hB rfl (fun h2 => ?_) (fun h2 => ?_)
  · rw [h2, cond_true] at hq
    refine pq_s hB 2 (pc' := 27) (L' := [(0, .ref 185), (1, .int a0)]) (st' := [.int 1, .ref 185]) (I' := I1) (J' := J1) (by with_unfolding_all rfl) ?_
    generalize hc3 : f205_185 I1 J1 1 = q3 at hq
    obtain ⟨v3, _, _⟩ := q3
    dsimp only at hq
    refine pq_1 rfl rfl rfl rfl (f205_185_pq hB hc3) ?_
    rintro _ I3 J3 ⟨rfl, rfl, rfl⟩
    subst hq
    exact pq_2i (x := v3) rfl ⟨rfl, rfl, rfl⟩
  · rw [h2, cond_false] at hq
    refine pq_s hB 7 (pc' := 19) (L' := [(0, .ref 185), (1, .int a0)]) (st' := [.int (I1 186 ((128 + a0)).toNatClampNeg), .ref 185]) (I' := I1) (J' := J1) (by with_unfolding_all rfl) ?_
    generalize hc4 : f206_185 I1 J1 (I1 186 ((128 + a0)).toNatClampNeg) = q4 at hq
    obtain ⟨v4, _, _⟩ := q4
    dsimp only at hq
    refine pq_1 rfl rfl rfl rfl (f206_185_pq hB hc4) ?_
    rintro _ I4 J4 ⟨rfl, rfl, rfl⟩
    refine pq_s hB 1 (pc' := 30) (L' := [(0, .ref 185), (1, .int a0)]) (st' := [.int v4]) (I' := I4) (J' := J4) (by with_unfolding_all rfl) ?_
    subst hq
    exact pq_2i (x := v4) rfl ⟨rfl, rfl, rfl⟩
-- LPModel.owner
def f280_185 (I : tI) (J : tJ) (a0 : Int32) : Int32 × tI × tJ :=
  (match f257_185 I J a0 with | (v1, I1, J1) => bif xcmp .eq v1 0 then (match f205_185 I1 J1 1 with | (v3, I3, J3) => (v3, I3, J3)) else (match f279_185 I1 J1 a0 with | (v4, I4, J4) => (match f207_185 I4 J4 v4 with | (v5, I5, J5) => (v5, I5, J5))))
set_option maxRecDepth 100000 in
theorem f280_185_pq {sc : List Int32} {B : xM} {n : Nat} {I : tI} {J : tJ} {a0 : Int32} (hB : kB pT B) : ∀ {q : Int32 × tI × tJ}, f280_185 I J a0 = q → pq sc B n (xt_280, 2, 1) 0 [(0, .ref 185), (1, .int a0)] [] I J (fun v I1 J1 => v = some (.int q.1) ∧ I1 = q.2.1 ∧ J1 = q.2.2) := by
  intro q hq
  unfold f280_185 at hq
  refine pq_s hB 2 (pc' := 2) (L' := [(0, .ref 185), (1, .int a0)]) (st' := [.int a0, .ref 185]) (I' := I) (J' := J) (by with_unfolding_all rfl) ?_
  generalize hc1 : f257_185 I J a0 = q1 at hq
  obtain ⟨v1, _, _⟩ := q1
  dsimp only at hq
  refine pq_1 rfl rfl rfl rfl (f257_185_pq hB hc1) ?_
  rintro _ I1 J1 ⟨rfl, rfl, rfl⟩
  refine pq_ifn hB rfl (fun h2 => ?_) (fun h2 => ?_)
  · rw [h2, cond_true] at hq
    refine pq_s hB 2 (pc' := 22) (L' := [(0, .ref 185), (1, .int a0)]) (st' := [.int 1, .ref 185]) (I' := I1) (J' := J1) (by with_unfolding_all rfl) ?_
    generalize hc3 : f205_185 I1 J1 1 = q3 at hq
    obtain ⟨v3, _, _⟩ := q3
    dsimp only at hq
    refine pq_1 rfl rfl rfl rfl (f205_185_pq hB hc3) ?_
    rintro _ I3 J3 ⟨rfl, rfl, rfl⟩
    subst hq
    exact pq_2i (x := v3) rfl ⟨rfl, rfl, rfl⟩
  · rw [h2, cond_false] at hq
    refine pq_s hB 3 (pc' := 11) (L' := [(0, .ref 185), (1, .int a0)]) (st' := [.int a0, .ref 185, .ref 185]) (I' := I1) (J' := J1) (by with_unfolding_all rfl) ?_
    generalize hc4 : f279_185 I1 J1 a0 = q4 at hq
    obtain ⟨v4, _, _⟩ := q4
    dsimp only at hq
    refine pq_1 rfl rfl rfl rfl (f279_185_pq hB hc4) ?_
    rintro _ I4 J4 ⟨rfl, rfl, rfl⟩
    generalize hc5 : f207_185 I4 J4 v4 = q5 at hq
    obtain ⟨v5, _, _⟩ := q5
    dsimp only at hq
    refine pq_1 rfl rfl rfl rfl (f207_185_pq hB hc5) ?_
    rintro _ I5 J5 ⟨rfl, rfl, rfl⟩
    refine pq_s hB 1 (pc' := 25) (L' := [(0, .ref 185), (1, .int a0)]) (st' := [.int v5]) (I' := I5) (J' := J5) (by with_unfolding_all rfl) ?_
    subst hq
    exact pq_2i (x := v5) rfl ⟨rfl, rfl, rfl⟩
-- LPModel.printsOf, the loop at 4, to [65]
def f269_185_l4 (N : Nat) : Nat → tI → tJ → Int32 → Int32 → Int32 → Option (Int32 × Int32 × Int32 × tI × tJ)
  | 0, _, _, _, _, _ => none
  | k + 1, I, J, x1, x2, x3 =>
    bif xcmp .ge x3 120 then some (x1, x2, x3, I, J) else bif xcmp .ne x1 (-1) then (bif xcmp .ne (I 186 ((132 + x3)).toNatClampNeg) x1 then f269_185_l4 N k I J x1 (x2 + 0) (x3 + 1) else f269_185_l4 N k I J x1 (x2 + 1) (x3 + 1)) else bif xcmp .ne (I 186 ((132 + x3)).toNatClampNeg) (-1) then f269_185_l4 N k I J x1 (x2 + 1) (x3 + 1) else f269_185_l4 N k I J x1 (x2 + 0) (x3 + 1)
set_option maxRecDepth 100000 in
theorem f269_185_l4_pq {sc : List Int32} {B : xM} {N : Nat} {P : Option Value → tI → tJ → Prop} (hB : kB pT B) : ∀ (k : Nat), k ≤ N → ∀ (b m : Nat), b ≤ k → b ≤ m → ∀ {I : tI} {J : tJ} {x1 : Int32} {x2 : Int32} {x3 : Int32} {Y : Option (Int32 × Int32 × Int32 × tI × tJ)}, f269_185_l4 N k I J x1 x2 x3 = Y → (∀ {y1 : Int32} {y2 : Int32} {y3 : Int32} {I1 : tI} {J1 : tJ}, Y = some (y1, y2, y3, I1, J1) → pq sc B m (xt_269, 4, 1) 65 [(0, .ref 185), (1, .int y1), (2, .int y2), (3, .int y3)] [] I1 J1 P) → pq sc B b (xt_269, 4, 1) 4 [(0, .ref 185), (1, .int x1), (2, .int x2), (3, .int x3)] [] I J P
  | 0, _, b, _, hb, _, _, _, _, _, _, _, _, _ => by
    have e : b = 0 := by omega
    subst e
    exact pq_zero
  | _ + 1, _, 0, _, _, _, _, _, _, _, _, _, _, _ => pq_zero
  | k + 1, hk, b + 1, m, hb, hm, I, J, x1, x2, x3, Y, hq, hx0 => by
    unfold f269_185_l4 at hq
    have hle : b ≤ N := by omega
    refine pq_s1 hB 1 (pc' := 7) (L' := [(0, .ref 185), (1, .int x1), (2, .int x2), (3, .int x3)]) (st' := [.int 120, .int x3]) (I' := I) (J' := J) (by with_unfolding_all rfl) ?_
    refine pq_icn hB rfl (fun h1 => ?_) (fun h1 => ?_)
    · rw [h1, cond_true] at hq
      exact pq_le (by omega) (hx0 hq.symm)
    · rw [h1, cond_false] at hq
      refine pq_s hB 3 (pc' := 13) (L' := [(0, .ref 185), (1, .int x1), (2, .int x2), (3, .int x3)]) (st' := [.int (-1), .int x1, .int x2]) (I' := I) (J' := J) (by with_unfolding_all rfl) ?_
      refine pq_icn hB rfl (fun h2 => ?_) (fun h2 => ?_)
      · rw [h2, cond_true] at hq
        refine pq_s hB 7 (pc' := 49) (L' := [(0, .ref 185), (1, .int x1), (2, .int x2), (3, .int x3)]) (st' := [.int x1, .int (I 186 ((132 + x3)).toNatClampNeg), .int x2]) (I' := I) (J' := J) (by with_unfolding_all rfl) ?_
        refine pq_icn hB rfl (fun h3 => ?_) (fun h3 => ?_)
        · rw [h3, cond_true] at hq
          refine pq_s hB 5 (pc' := 4) (L' := [(3, .int (x3 + 1)), (2, .int (x2 + 0)), (0, .ref 185), (1, .int x1)]) (st' := []) (I' := I) (J' := J) (by with_unfolding_all rfl) ?_
          refine pq_perm (L := [(0, .ref 185), (1, .int x1), (2, .int (x2 + 0)), (3, .int (x3 + 1))]) (leqn_of ⟨rfl, rfl, rfl, rfl, trivial⟩ ⟨rfl, rfl, rfl, rfl, trivial⟩ ⟨rfl, rfl, rfl, rfl, trivial⟩) ?_
          exact f269_185_l4_pq hB k (by omega) b m (by omega) (by omega) hq hx0
        · rw [h3, cond_false] at hq
          refine pq_s hB 6 (pc' := 4) (L' := [(3, .int (x3 + 1)), (2, .int (x2 + 1)), (0, .ref 185), (1, .int x1)]) (st' := []) (I' := I) (J' := J) (by with_unfolding_all rfl) ?_
          refine pq_perm (L := [(0, .ref 185), (1, .int x1), (2, .int (x2 + 1)), (3, .int (x3 + 1))]) (leqn_of ⟨rfl, rfl, rfl, rfl, trivial⟩ ⟨rfl, rfl, rfl, rfl, trivial⟩ ⟨rfl, rfl, rfl, rfl, trivial⟩) ?_
          exact f269_185_l4_pq hB k (by omega) b m (by omega) (by omega) hq hx0
      · rw [h2, cond_false] at hq
        refine pq_s hB 7 (pc' := 27) (L' := [(0, .ref 185), (1, .int x1), (2, .int x2), (3, .int x3)]) (st' := [.int (-1), .int (I 186 ((132 + x3)).toNatClampNeg), .int x2]) (I' := I) (J' := J) (by with_unfolding_all rfl) ?_
        refine pq_icn hB rfl (fun h4 => ?_) (fun h4 => ?_)
        · rw [h4, cond_true] at hq
          refine pq_s hB 6 (pc' := 4) (L' := [(3, .int (x3 + 1)), (2, .int (x2 + 1)), (0, .ref 185), (1, .int x1)]) (st' := []) (I' := I) (J' := J) (by with_unfolding_all rfl) ?_
          refine pq_perm (L := [(0, .ref 185), (1, .int x1), (2, .int (x2 + 1)), (3, .int (x3 + 1))]) (leqn_of ⟨rfl, rfl, rfl, rfl, trivial⟩ ⟨rfl, rfl, rfl, rfl, trivial⟩ ⟨rfl, rfl, rfl, rfl, trivial⟩) ?_
          exact f269_185_l4_pq hB k (by omega) b m (by omega) (by omega) hq hx0
        · rw [h4, cond_false] at hq
          refine pq_s hB 6 (pc' := 4) (L' := [(3, .int (x3 + 1)), (2, .int (x2 + 0)), (0, .ref 185), (1, .int x1)]) (st' := []) (I' := I) (J' := J) (by with_unfolding_all rfl) ?_
          refine pq_perm (L := [(0, .ref 185), (1, .int x1), (2, .int (x2 + 0)), (3, .int (x3 + 1))]) (leqn_of ⟨rfl, rfl, rfl, rfl, trivial⟩ ⟨rfl, rfl, rfl, rfl, trivial⟩ ⟨rfl, rfl, rfl, rfl, trivial⟩) ?_
          exact f269_185_l4_pq hB k (by omega) b m (by omega) (by omega) hq hx0
-- LPModel.printsOf
def f269_185 (N : Nat) (I : tI) (J : tJ) (a0 : Int32) : Option (Int32 × tI × tJ) :=
  (match f269_185_l4 N N I J a0 0 0 with | none => none | some (y1_1, y1_2, y1_3, I1, J1) => some (y1_2, I1, J1))
set_option maxRecDepth 100000 in
theorem f269_185_pq {sc : List Int32} {B : xM} {N : Nat} {I : tI} {J : tJ} {a0 : Int32} (hB : kB pT B) : ∀ {X : Option (Int32 × tI × tJ)}, f269_185 N I J a0 = X → pq sc B N (xt_269, 4, 1) 0 [(0, .ref 185), (1, .int a0)] [] I J (fun v I1 J1 => ∃ a, v = some (.int a) ∧ X = some (a, I1, J1)) := by
  intro X hq
  unfold f269_185 at hq
  have hle : N ≤ N := Nat.le_refl N
  refine pq_s hB 4 (pc' := 4) (L' := [(3, .int 0), (2, .int 0), (0, .ref 185), (1, .int a0)]) (st' := []) (I' := I) (J' := J) (by with_unfolding_all rfl) ?_
  refine pq_perm (L := [(0, .ref 185), (1, .int a0), (2, .int 0), (3, .int 0)]) (leqn_of ⟨rfl, rfl, rfl, rfl, trivial⟩ ⟨rfl, rfl, rfl, rfl, trivial⟩ ⟨rfl, rfl, rfl, rfl, trivial⟩) ?_
  refine f269_185_l4_pq hB N (Nat.le_refl N) N N hle (Nat.le_refl N) rfl ?_
  intro y1_1 y1_2 y1_3 I1 J1 hc1
  rw [hc1] at hq
  dsimp only at hq
  refine pq_s hB 1 (pc' := 66) (L' := [(0, .ref 185), (1, .int y1_1), (2, .int y1_2), (3, .int y1_3)]) (st' := [.int y1_2]) (I' := I1) (J' := J1) (by with_unfolding_all rfl) ?_
  subst hq
  exact pq_2i (x := y1_2) rfl ⟨_, rfl, rfl⟩
-- LPModel.prints
def f281_185 (N : Nat) (I : tI) (J : tJ) (a0 : Int32) : Option (Int32 × tI × tJ) :=
  (match f256_185 I J a0 with | (v1, I1, J1) => bif xcmp .eq v1 0 then (match f205_185 I1 J1 1 with | (v3, I3, J3) => some (v3, I3, J3)) else (match f269_185 N I1 J1 a0 with | none => none | some (v4, I4, J4) => (match f206_185 I4 J4 v4 with | (v5, I5, J5) => some (v5, I5, J5))))
set_option maxRecDepth 100000 in
theorem f281_185_pq {sc : List Int32} {B : xM} {N : Nat} {I : tI} {J : tJ} {a0 : Int32} (hB : kB pT B) : ∀ {X : Option (Int32 × tI × tJ)}, f281_185 N I J a0 = X → pq sc B N (xt_281, 2, 1) 0 [(0, .ref 185), (1, .int a0)] [] I J (fun v I1 J1 => ∃ a, v = some (.int a) ∧ X = some (a, I1, J1)) := by
  intro X hq
  unfold f281_185 at hq
  have hle : N ≤ N := Nat.le_refl N
  refine pq_s hB 2 (pc' := 2) (L' := [(0, .ref 185), (1, .int a0)]) (st' := [.int a0, .ref 185]) (I' := I) (J' := J) (by with_unfolding_all rfl) ?_
  generalize hc1 : f256_185 I J a0 = q1 at hq
  obtain ⟨v1, _, _⟩ := q1
  dsimp only at hq
  refine pq_1 rfl rfl rfl rfl (f256_185_pq hB hc1) ?_
  rintro _ I1 J1 ⟨rfl, rfl, rfl⟩
  refine pq_ifn hB rfl (fun h2 => ?_) (fun h2 => ?_)
  · rw [h2, cond_true] at hq
    refine pq_s hB 2 (pc' := 22) (L' := [(0, .ref 185), (1, .int a0)]) (st' := [.int 1, .ref 185]) (I' := I1) (J' := J1) (by with_unfolding_all rfl) ?_
    generalize hc3 : f205_185 I1 J1 1 = q3 at hq
    obtain ⟨v3, _, _⟩ := q3
    dsimp only at hq
    refine pq_1 rfl rfl rfl rfl (f205_185_pq hB hc3) ?_
    rintro _ I3 J3 ⟨rfl, rfl, rfl⟩
    subst hq
    exact pq_2i (x := v3) rfl ⟨_, rfl, rfl⟩
  · rw [h2, cond_false] at hq
    refine pq_s hB 3 (pc' := 11) (L' := [(0, .ref 185), (1, .int a0)]) (st' := [.int a0, .ref 185, .ref 185]) (I' := I1) (J' := J1) (by with_unfolding_all rfl) ?_
    refine pq_1 rfl rfl rfl rfl (pq_le hle (f269_185_pq hB rfl)) ?_
    rintro _ I4 J4 ⟨v4, rfl, hc4⟩
    rw [hc4] at hq
    dsimp only at hq
    generalize hc5 : f206_185 I4 J4 v4 = q5 at hq
    obtain ⟨v5, _, _⟩ := q5
    dsimp only at hq
    refine pq_1 rfl rfl rfl rfl (f206_185_pq hB hc5) ?_
    rintro _ I5 J5 ⟨rfl, rfl, rfl⟩
    refine pq_s hB 1 (pc' := 25) (L' := [(0, .ref 185), (1, .int a0)]) (st' := [.int v5]) (I' := I5) (J' := J5) (by with_unfolding_all rfl) ?_
    subst hq
    exact pq_2i (x := v5) rfl ⟨_, rfl, rfl⟩
-- LP$Runner.buyAll, the loop at 62, to [79]
def f66_67_10_l62 (N : Nat) : Nat → tI → tJ → Int32 → Int32 → Int32 → Option (Int32 × Int32 × Int32 × tI × tJ)
  | 0, _, _, _, _, _ => none
  | k + 1, I, J, x2, x3, x4 =>
    bif xcmp .ge x4 x3 then some (x2, x3, x4, I, J) else (match f110_10 N I J x2 with | none => none | some (_, I6, J6) => f66_67_10_l62 N k I6 J6 x2 x3 (x4 + 1))
set_option maxRecDepth 100000 in
theorem f66_67_10_l62_pq {sc : List Int32} {B : xM} {N : Nat} {P : Option Value → tI → tJ → Prop} (hB : kB pT B) : ∀ (k : Nat), k ≤ N → ∀ (b m : Nat), b ≤ k → b ≤ m → ∀ {I : tI} {J : tJ} {x2 : Int32} {x3 : Int32} {x4 : Int32} {Y : Option (Int32 × Int32 × Int32 × tI × tJ)}, f66_67_10_l62 N k I J x2 x3 x4 = Y → (∀ {y2 : Int32} {y3 : Int32} {y4 : Int32} {I1 : tI} {J1 : tJ}, Y = some (y2, y3, y4, I1, J1) → pq sc B m (xt_66, 5, 0) 79 [(1, .ref 10), (2, .int y2), (3, .int y3), (4, .int y4)] [] I1 J1 P) → pq sc B b (xt_66, 5, 0) 62 [(1, .ref 10), (2, .int x2), (3, .int x3), (4, .int x4)] [] I J P
  | 0, _, b, _, hb, _, _, _, _, _, _, _, _, _ => by
    have e : b = 0 := by omega
    subst e
    exact pq_zero
  | _ + 1, _, 0, _, _, _, _, _, _, _, _, _, _, _ => pq_zero
  | k + 1, hk, b + 1, m, hb, hm, I, J, x2, x3, x4, Y, hq, hx0 => by
    unfold f66_67_10_l62 at hq
    have hle : b ≤ N := by omega
    refine pq_s1 hB 1 (pc' := 65) (L' := [(1, .ref 10), (2, .int x2), (3, .int x3), (4, .int x4)]) (st' := [.int x3, .int x4]) (I' := I) (J' := J) (by with_unfolding_all rfl) ?_
    refine pq_icn hB rfl (fun h5 => ?_) (fun h5 => ?_)
    · rw [h5, cond_true] at hq
      exact pq_le (by omega) (hx0 hq.symm)
    · rw [h5, cond_false] at hq
      refine pq_s hB 2 (pc' := 70) (L' := [(1, .ref 10), (2, .int x2), (3, .int x3), (4, .int x4)]) (st' := [.int x2, .ref 10]) (I' := I) (J' := J) (by with_unfolding_all rfl) ?_
      refine pq_1 rfl rfl rfl rfl (pq_le hle (f110_10_pq hB rfl)) ?_
      rintro _ I6 J6 ⟨rfl, hc6⟩
      rw [hc6] at hq
      dsimp only at hq
      refine pq_s hB 2 (pc' := 62) (L' := [(4, .int (x4 + 1)), (1, .ref 10), (2, .int x2), (3, .int x3)]) (st' := []) (I' := I6) (J' := J6) (by with_unfolding_all rfl) ?_
      refine pq_perm (L := [(1, .ref 10), (2, .int x2), (3, .int x3), (4, .int (x4 + 1))]) (leqn_of ⟨rfl, rfl, rfl, rfl, trivial⟩ ⟨rfl, rfl, rfl, rfl, trivial⟩ ⟨rfl, rfl, rfl, rfl, trivial⟩) ?_
      exact f66_67_10_l62_pq hB k (by omega) b m (by omega) (by omega) hq hx0
-- LP$Runner.buyAll
def f66_67_10 (N : Nat) (I : tI) (J : tJ) (a0 : Int32) (a1 : Int32) : Option (Unit × tI × tJ) :=
  bif xcmp .eq a0 (-1) then some ((), (tup I 67 1 ((I 67 1) + 1)), J) else (match f109_10 I J a0 a1 with | (v2, I2, J2) => bif xcmp .ne v2 0 then (match f107_10 I2 J2 a1 with | (v4, I4, J4) => (match f66_67_10_l62 N N (tup (tup (tup I4 67 4 ((I2 67 4) + v4)) 67 3 ((I4 67 3) + a1)) 67 2 ((I4 67 2) + a1)) J4 a0 a1 0 with | none => none | some (y5_2, y5_3, y5_4, I5, J5) => some ((), I5, J5))) else some ((), (tup I2 67 1 ((I2 67 1) + 1)), J2))
set_option maxRecDepth 100000 in
theorem f66_67_10_pq {sc : List Int32} {B : xM} {N : Nat} {I : tI} {J : tJ} {a0 : Int32} {a1 : Int32} (hB : kB pT B) : ∀ {X : Option (Unit × tI × tJ)}, f66_67_10 N I J a0 a1 = X → pq sc B N (xt_66, 5, 0) 0 [(0, .ref 67), (1, .ref 10), (2, .int a0), (3, .int a1)] [] I J (fun v I1 J1 => v = none ∧ X = some ((), I1, J1)) := by
  intro X hq
  unfold f66_67_10 at hq
  have hle : N ≤ N := Nat.le_refl N
  refine pq_s hB 2 (pc' := 2) (L' := [(0, .ref 67), (1, .ref 10), (2, .int a0), (3, .int a1)]) (st' := [.int (-1), .int a0]) (I' := I) (J' := J) (by with_unfolding_all rfl) ?_
  refine pq_icn hB rfl (fun h1 => ?_) (fun h1 => ?_)
  · rw [h1, cond_true] at hq
    refine pq_s hB 6 (pc' := 24) (L' := [(0, .ref 67), (1, .ref 10), (2, .int a0), (3, .int a1)]) (st' := []) (I' := (tup I 67 1 ((I 67 1) + 1))) (J' := J) (by with_unfolding_all rfl) ?_
    subst hq
    exact pq_2 (v := none) rfl rfl (by with_unfolding_all rfl) ⟨rfl, rfl⟩
  · rw [h1, cond_false] at hq
    refine pq_s hB 3 (pc' := 8) (L' := [(0, .ref 67), (1, .ref 10), (2, .int a0), (3, .int a1)]) (st' := [.int a1, .int a0, .ref 10]) (I' := I) (J' := J) (by with_unfolding_all rfl) ?_
    generalize hc2 : f109_10 I J a0 a1 = q2 at hq
    obtain ⟨v2, _, _⟩ := q2
    dsimp only at hq
    refine pq_1 rfl rfl rfl rfl (f109_10_pq hB hc2) ?_
    rintro _ I2 J2 ⟨rfl, rfl, rfl⟩
    refine pq_ifn hB rfl (fun h3 => ?_) (fun h3 => ?_)
    · rw [h3, cond_true] at hq
      refine pq_s hB 5 (pc' := 32) (L' := [(0, .ref 67), (1, .ref 10), (2, .int a0), (3, .int a1)]) (st' := [.int a1, .ref 10, .int (I2 67 4), .ref 67]) (I' := I2) (J' := J2) (by with_unfolding_all rfl) ?_
      generalize hc4 : f107_10 I2 J2 a1 = q4 at hq
      obtain ⟨v4, _, _⟩ := q4
      dsimp only at hq
      refine pq_1 rfl rfl rfl rfl (f107_10_pq hB hc4) ?_
      rintro _ I4 J4 ⟨rfl, rfl, rfl⟩
      refine pq_s hB 16 (pc' := 62) (L' := [(4, .int 0), (0, .ref 67), (1, .ref 10), (2, .int a0), (3, .int a1)]) (st' := []) (I' := (tup (tup (tup I4 67 4 ((I2 67 4) + v4)) 67 3 ((I4 67 3) + a1)) 67 2 ((I4 67 2) + a1))) (J' := J4) (by with_unfolding_all rfl) ?_
      refine pq_perm (L := [(1, .ref 10), (2, .int a0), (3, .int a1), (4, .int 0)]) (leqn_of ⟨rfl, rfl, rfl, rfl, trivial⟩ ⟨rfl, rfl, rfl, rfl, trivial⟩ ⟨rfl, rfl, rfl, rfl, rfl, trivial⟩) ?_
      refine f66_67_10_l62_pq hB N (Nat.le_refl N) N N hle (Nat.le_refl N) rfl ?_
      intro y5_2 y5_3 y5_4 I5 J5 hc5
      rw [hc5] at hq
      dsimp only at hq
      subst hq
      exact pq_2 (v := none) rfl rfl (by with_unfolding_all rfl) ⟨rfl, rfl⟩
    · rw [h3, cond_false] at hq
      refine pq_s hB 6 (pc' := 24) (L' := [(0, .ref 67), (1, .ref 10), (2, .int a0), (3, .int a1)]) (st' := []) (I' := (tup I2 67 1 ((I2 67 1) + 1))) (J' := J2) (by with_unfolding_all rfl) ?_
      subst hq
      exact pq_2 (v := none) rfl rfl (by with_unfolding_all rfl) ⟨rfl, rfl⟩
-- LP$Runner.skipAll, the loop at 31, to [47]
def f67_67_10_l31 (N : Nat) : Nat → tI → tJ → Int32 → Int32 → Option (Int32 × Int32 × tI × tJ)
  | 0, _, _, _, _ => none
  | k + 1, I, J, x2, x3 =>
    bif xcmp .ge x3 x2 then some (x2, x3, I, J) else (match f110_10 N I J (-1) with | none => none | some (_, I4, J4) => f67_67_10_l31 N k I4 J4 x2 (x3 + 1))
set_option maxRecDepth 100000 in
theorem f67_67_10_l31_pq {sc : List Int32} {B : xM} {N : Nat} {P : Option Value → tI → tJ → Prop} (hB : kB pT B) : ∀ (k : Nat), k ≤ N → ∀ (b m : Nat), b ≤ k → b ≤ m → ∀ {I : tI} {J : tJ} {x2 : Int32} {x3 : Int32} {Y : Option (Int32 × Int32 × tI × tJ)}, f67_67_10_l31 N k I J x2 x3 = Y → (∀ {y2 : Int32} {y3 : Int32} {I1 : tI} {J1 : tJ}, Y = some (y2, y3, I1, J1) → pq sc B m (xt_67, 4, 0) 47 [(1, .ref 10), (2, .int y2), (3, .int y3)] [] I1 J1 P) → pq sc B b (xt_67, 4, 0) 31 [(1, .ref 10), (2, .int x2), (3, .int x3)] [] I J P
  | 0, _, b, _, hb, _, _, _, _, _, _, _, _ => by
    have e : b = 0 := by omega
    subst e
    exact pq_zero
  | _ + 1, _, 0, _, _, _, _, _, _, _, _, _, _ => pq_zero
  | k + 1, hk, b + 1, m, hb, hm, I, J, x2, x3, Y, hq, hx0 => by
    unfold f67_67_10_l31 at hq
    have hle : b ≤ N := by omega
    refine pq_s1 hB 1 (pc' := 33) (L' := [(1, .ref 10), (2, .int x2), (3, .int x3)]) (st' := [.int x2, .int x3]) (I' := I) (J' := J) (by with_unfolding_all rfl) ?_
    refine pq_icn hB rfl (fun h3 => ?_) (fun h3 => ?_)
    · rw [h3, cond_true] at hq
      exact pq_le (by omega) (hx0 hq.symm)
    · rw [h3, cond_false] at hq
      refine pq_s hB 2 (pc' := 38) (L' := [(1, .ref 10), (2, .int x2), (3, .int x3)]) (st' := [.int (-1), .ref 10]) (I' := I) (J' := J) (by with_unfolding_all rfl) ?_
      refine pq_1 rfl rfl rfl rfl (pq_le hle (f110_10_pq hB rfl)) ?_
      rintro _ I4 J4 ⟨rfl, hc4⟩
      rw [hc4] at hq
      dsimp only at hq
      refine pq_s hB 2 (pc' := 31) (L' := [(3, .int (x3 + 1)), (1, .ref 10), (2, .int x2)]) (st' := []) (I' := I4) (J' := J4) (by with_unfolding_all rfl) ?_
      refine pq_perm (L := [(1, .ref 10), (2, .int x2), (3, .int (x3 + 1))]) (leqn_of ⟨rfl, rfl, rfl, trivial⟩ ⟨rfl, rfl, rfl, trivial⟩ ⟨rfl, rfl, rfl, trivial⟩) ?_
      exact f67_67_10_l31_pq hB k (by omega) b m (by omega) (by omega) hq hx0
-- LP$Runner.skipAll
def f67_67_10 (N : Nat) (I : tI) (J : tJ) (a0 : Int32) : Option (Unit × tI × tJ) :=
  (match f108_10 I J a0 with | (v1, I1, J1) => bif xcmp .ne v1 0 then (match f67_67_10_l31 N N (tup I1 67 2 ((I1 67 2) + a0)) J1 a0 0 with | none => none | some (y3_2, y3_3, I3, J3) => some ((), I3, J3)) else some ((), (tup I1 67 1 ((I1 67 1) + 1)), J1))
set_option maxRecDepth 100000 in
theorem f67_67_10_pq {sc : List Int32} {B : xM} {N : Nat} {I : tI} {J : tJ} {a0 : Int32} (hB : kB pT B) : ∀ {X : Option (Unit × tI × tJ)}, f67_67_10 N I J a0 = X → pq sc B N (xt_67, 4, 0) 0 [(0, .ref 67), (1, .ref 10), (2, .int a0)] [] I J (fun v I1 J1 => v = none ∧ X = some ((), I1, J1)) := by
  intro X hq
  unfold f67_67_10 at hq
  have hle : N ≤ N := Nat.le_refl N
  refine pq_s hB 2 (pc' := 2) (L' := [(0, .ref 67), (1, .ref 10), (2, .int a0)]) (st' := [.int a0, .ref 10]) (I' := I) (J' := J) (by with_unfolding_all rfl) ?_
  generalize hc1 : f108_10 I J a0 = q1 at hq
  obtain ⟨v1, _, _⟩ := q1
  dsimp only at hq
  refine pq_1 rfl rfl rfl rfl (f108_10_pq hB hc1) ?_
  rintro _ I1 J1 ⟨rfl, rfl, rfl⟩
  refine pq_ifn hB rfl (fun h2 => ?_) (fun h2 => ?_)
  · rw [h2, cond_true] at hq
    refine pq_s hB 8 (pc' := 31) (L' := [(3, .int 0), (0, .ref 67), (1, .ref 10), (2, .int a0)]) (st' := []) (I' := (tup I1 67 2 ((I1 67 2) + a0))) (J' := J1) (by with_unfolding_all rfl) ?_
    refine pq_perm (L := [(1, .ref 10), (2, .int a0), (3, .int 0)]) (leqn_of ⟨rfl, rfl, rfl, trivial⟩ ⟨rfl, rfl, rfl, trivial⟩ ⟨rfl, rfl, rfl, rfl, trivial⟩) ?_
    refine f67_67_10_l31_pq hB N (Nat.le_refl N) N N hle (Nat.le_refl N) rfl ?_
    intro y3_2 y3_3 I3 J3 hc3
    rw [hc3] at hq
    dsimp only at hq
    subst hq
    exact pq_2 (v := none) rfl rfl (by with_unfolding_all rfl) ⟨rfl, rfl⟩
  · rw [h2, cond_false] at hq
    refine pq_s hB 6 (pc' := 18) (L' := [(0, .ref 67), (1, .ref 10), (2, .int a0)]) (st' := []) (I' := (tup I1 67 1 ((I1 67 1) + 1))) (J' := J1) (by with_unfolding_all rfl) ?_
    subst hq
    exact pq_2 (v := none) rfl rfl (by with_unfolding_all rfl) ⟨rfl, rfl⟩
-- LP$World.latestPrintOf, the loop at 3, to [26, 18]
def f115_10_l3 (N : Nat) : Nat → tI → tJ → Int32 → Int32 → Option (Nat × Int32 × Int32 × tI × tJ)
  | 0, _, _, _, _ => none
  | k + 1, I, J, x1, x2 =>
    bif xcmp .lt x2 1 then some (0, x1, x2, I, J) else bif xcmp .ne (I 33 (x2).toNatClampNeg) x1 then f115_10_l3 N k I J x1 (x2 + (-1)) else some (1, x1, x2, I, J)
set_option maxRecDepth 100000 in
theorem f115_10_l3_pq {sc : List Int32} {B : xM} {N : Nat} {P : Option Value → tI → tJ → Prop} (hB : kB pT B) : ∀ (k : Nat), k ≤ N → ∀ (b m : Nat), b ≤ k → b ≤ m → ∀ {I : tI} {J : tJ} {x1 : Int32} {x2 : Int32} {Y : Option (Nat × Int32 × Int32 × tI × tJ)}, f115_10_l3 N k I J x1 x2 = Y → (∀ {y1 : Int32} {y2 : Int32} {I1 : tI} {J1 : tJ}, Y = some (0, y1, y2, I1, J1) → pq sc B m (xt_115, 3, 1) 26 [(0, .ref 10), (1, .int y1), (2, .int y2)] [] I1 J1 P) → (∀ {y1 : Int32} {y2 : Int32} {I1 : tI} {J1 : tJ}, Y = some (1, y1, y2, I1, J1) → pq sc B m (xt_115, 3, 1) 18 [(0, .ref 10), (1, .int y1), (2, .int y2)] [] I1 J1 P) → pq sc B b (xt_115, 3, 1) 3 [(0, .ref 10), (1, .int x1), (2, .int x2)] [] I J P
  | 0, _, b, _, hb, _, _, _, _, _, _, _, _, _ => by
    have e : b = 0 := by omega
    subst e
    exact pq_zero
  | _ + 1, _, 0, _, _, _, _, _, _, _, _, _, _, _ => pq_zero
  | k + 1, hk, b + 1, m, hb, hm, I, J, x1, x2, Y, hq, hx0, hx1 => by
    unfold f115_10_l3 at hq
    have hle : b ≤ N := by omega
    refine pq_s1 hB 1 (pc' := 5) (L' := [(0, .ref 10), (1, .int x1), (2, .int x2)]) (st' := [.int 1, .int x2]) (I' := I) (J' := J) (by with_unfolding_all rfl) ?_
    refine pq_icn hB rfl (fun h1 => ?_) (fun h1 => ?_)
    · rw [h1, cond_true] at hq
      exact pq_le (by omega) (hx0 hq.symm)
    · rw [h1, cond_false] at hq
      refine pq_s hB 5 (pc' := 15) (L' := [(0, .ref 10), (1, .int x1), (2, .int x2)]) (st' := [.int x1, .int (I 33 (x2).toNatClampNeg)]) (I' := I) (J' := J) (by with_unfolding_all rfl) ?_
      refine pq_icn hB rfl (fun h2 => ?_) (fun h2 => ?_)
      · rw [h2, cond_true] at hq
        refine pq_s hB 2 (pc' := 3) (L' := [(2, .int (x2 + (-1))), (0, .ref 10), (1, .int x1)]) (st' := []) (I' := I) (J' := J) (by with_unfolding_all rfl) ?_
        refine pq_perm (L := [(0, .ref 10), (1, .int x1), (2, .int (x2 + (-1)))]) (leqn_of ⟨rfl, rfl, rfl, trivial⟩ ⟨rfl, rfl, rfl, trivial⟩ ⟨rfl, rfl, rfl, trivial⟩) ?_
        exact f115_10_l3_pq hB k (by omega) b m (by omega) (by omega) hq hx0 hx1
      · rw [h2, cond_false] at hq
        exact pq_le (by omega) (hx1 hq.symm)
-- LP$World.latestPrintOf
def f115_10 (N : Nat) (I : tI) (J : tJ) (a0 : Int32) : Option (Int32 × tI × tJ) :=
  (match f115_10_l3 N N I J a0 120 with | none => none | some (k1, y1_1, y1_2, I1, J1) => bif Nat.beq k1 0 then (some ((-1), I1, J1)) else some (y1_2, I1, J1))
set_option maxRecDepth 100000 in
theorem f115_10_pq {sc : List Int32} {B : xM} {N : Nat} {I : tI} {J : tJ} {a0 : Int32} (hB : kB pT B) : ∀ {X : Option (Int32 × tI × tJ)}, f115_10 N I J a0 = X → pq sc B N (xt_115, 3, 1) 0 [(0, .ref 10), (1, .int a0)] [] I J (fun v I1 J1 => ∃ a, v = some (.int a) ∧ X = some (a, I1, J1)) := by
  intro X hq
  unfold f115_10 at hq
  have hle : N ≤ N := Nat.le_refl N
  refine pq_s hB 2 (pc' := 3) (L' := [(2, .int 120), (0, .ref 10), (1, .int a0)]) (st' := []) (I' := I) (J' := J) (by with_unfolding_all rfl) ?_
  refine pq_perm (L := [(0, .ref 10), (1, .int a0), (2, .int 120)]) (leqn_of ⟨rfl, rfl, rfl, trivial⟩ ⟨rfl, rfl, rfl, trivial⟩ ⟨rfl, rfl, rfl, trivial⟩) ?_
  refine f115_10_l3_pq hB N (Nat.le_refl N) N N hle (Nat.le_refl N) rfl ?_ ?_
  ·
    intro y1_1 y1_2 I1 J1 hc1
    rw [hc1] at hq
    dsimp only at hq
    rw [show Nat.beq 0 0 = true from rfl, cond_true] at hq
    refine pq_s hB 1 (pc' := 27) (L' := [(0, .ref 10), (1, .int y1_1), (2, .int y1_2)]) (st' := [.int (-1)]) (I' := I1) (J' := J1) (by with_unfolding_all rfl) ?_
    subst hq
    exact pq_2i (x := (-1)) rfl ⟨_, rfl, rfl⟩
  ·
    intro y1_1 y1_2 I1 J1 hc1
    rw [hc1] at hq
    dsimp only at hq
    rw [show Nat.beq 1 0 = false from rfl, cond_false] at hq
    refine pq_s hB 1 (pc' := 19) (L' := [(0, .ref 10), (1, .int y1_1), (2, .int y1_2)]) (st' := [.int y1_2]) (I' := I1) (J' := J1) (by with_unfolding_all rfl) ?_
    subst hq
    exact pq_2i (x := y1_2) rfl ⟨_, rfl, rfl⟩
-- LP$Runner.handOn
def f68_67_10 (N : Nat) (I : tI) (J : tJ) (a0 : Int32) (a1 : Int32) : Option (Unit × tI × tJ) :=
  (match f115_10 N I J a0 with | none => none | some (v1, I1, J1) => bif xcmp .eq v1 (-1) then some ((), (tup I1 67 1 ((I1 67 1) + 1)), J1) else bif xcmp .ne a0 a1 then (match f111_10 I1 J1 v1 a1 with | (_, I4, J4) => some ((), I4, J4)) else some ((), (tup I1 67 1 ((I1 67 1) + 1)), J1))
set_option maxRecDepth 100000 in
theorem f68_67_10_pq {sc : List Int32} {B : xM} {N : Nat} {I : tI} {J : tJ} {a0 : Int32} {a1 : Int32} (hB : kB pT B) : ∀ {X : Option (Unit × tI × tJ)}, f68_67_10 N I J a0 a1 = X → pq sc B N (xt_68, 5, 0) 0 [(0, .ref 67), (1, .ref 10), (2, .int a0), (3, .int a1)] [] I J (fun v I1 J1 => v = none ∧ X = some ((), I1, J1)) := by
  intro X hq
  unfold f68_67_10 at hq
  have hle : N ≤ N := Nat.le_refl N
  refine pq_s hB 2 (pc' := 2) (L' := [(0, .ref 67), (1, .ref 10), (2, .int a0), (3, .int a1)]) (st' := [.int a0, .ref 10]) (I' := I) (J' := J) (by with_unfolding_all rfl) ?_
  refine pq_1 rfl rfl rfl rfl (pq_le hle (f115_10_pq hB rfl)) ?_
  rintro _ I1 J1 ⟨v1, rfl, hc1⟩
  rw [hc1] at hq
  dsimp only at hq
  refine pq_s hB 3 (pc' := 10) (L' := [(4, .int v1), (0, .ref 67), (1, .ref 10), (2, .int a0), (3, .int a1)]) (st' := [.int (-1), .int v1]) (I' := I1) (J' := J1) (by with_unfolding_all rfl) ?_
  refine pq_icn hB rfl (fun h2 => ?_) (fun h2 => ?_)
  · rw [h2, cond_true] at hq
    refine pq_s hB 6 (pc' := 28) (L' := [(4, .int v1), (0, .ref 67), (1, .ref 10), (2, .int a0), (3, .int a1)]) (st' := []) (I' := (tup I1 67 1 ((I1 67 1) + 1))) (J' := J1) (by with_unfolding_all rfl) ?_
    subst hq
    exact pq_2 (v := none) rfl rfl (by with_unfolding_all rfl) ⟨rfl, rfl⟩
  · rw [h2, cond_false] at hq
    refine pq_s hB 2 (pc' := 15) (L' := [(4, .int v1), (0, .ref 67), (1, .ref 10), (2, .int a0), (3, .int a1)]) (st' := [.int a1, .int a0]) (I' := I1) (J' := J1) (by with_unfolding_all rfl) ?_
    refine pq_icn hB rfl (fun h3 => ?_) (fun h3 => ?_)
    · rw [h3, cond_true] at hq
      refine pq_s hB 3 (pc' := 33) (L' := [(4, .int v1), (0, .ref 67), (1, .ref 10), (2, .int a0), (3, .int a1)]) (st' := [.int a1, .int v1, .ref 10]) (I' := I1) (J' := J1) (by with_unfolding_all rfl) ?_
      generalize hc4 : f111_10 I1 J1 v1 a1 = q4 at hq
      obtain ⟨v4, _, _⟩ := q4
      dsimp only at hq
      refine pq_1 rfl rfl rfl rfl (f111_10_pq hB hc4) ?_
      rintro _ I4 J4 ⟨rfl, rfl, rfl⟩
      subst hq
      exact pq_2 (v := none) rfl rfl (by with_unfolding_all rfl) ⟨rfl, rfl⟩
    · rw [h3, cond_false] at hq
      refine pq_s hB 6 (pc' := 28) (L' := [(4, .int v1), (0, .ref 67), (1, .ref 10), (2, .int a0), (3, .int a1)]) (st' := []) (I' := (tup I1 67 1 ((I1 67 1) + 1))) (J' := J1) (by with_unfolding_all rfl) ?_
      subst hq
      exact pq_2 (v := none) rfl rfl (by with_unfolding_all rfl) ⟨rfl, rfl⟩
-- LP$Runner.drawBuyer
def f69_67 (I : tI) (J : tJ) (a0 : Int32) : Int32 × tI × tJ :=
  bif xcmp .ge a0 1 then ((((((((I 67 7) * 3049) + 11273) - (((I 67 7) * 3049) + 11273) / 65536 * 65536)) / 8) - ((((((I 67 7) * 3049) + 11273) - (((I 67 7) * 3049) + 11273) / 65536 * 65536)) / 8) / a0 * a0), (tup I 67 7 ((((I 67 7) * 3049) + 11273) - (((I 67 7) * 3049) + 11273) / 65536 * 65536)), J) else ((-1), I, J)
set_option maxRecDepth 100000 in
theorem f69_67_pq {sc : List Int32} {B : xM} {n : Nat} {I : tI} {J : tJ} {a0 : Int32} (hB : kB pT B) : ∀ {q : Int32 × tI × tJ}, f69_67 I J a0 = q → pq sc B n (xt_69, 2, 1) 0 [(0, .ref 67), (1, .int a0)] [] I J (fun v I1 J1 => v = some (.int q.1) ∧ I1 = q.2.1 ∧ J1 = q.2.2) := by
  intro q hq
  unfold f69_67 at hq
  refine pq_s hB 2 (pc' := 2) (L' := [(0, .ref 67), (1, .int a0)]) (st' := [.int 1, .int a0]) (I' := I) (J' := J) (by with_unfolding_all rfl) ?_
  refine pq_icn hB rfl (fun h1 => ?_) (fun h1 => ?_)
  · rw [h1, cond_true] at hq
    refine pq_s hB 15 (pc' := 34) (L' := [(0, .ref 67), (1, .int a0)]) (st' := [.int a0, .int ((((((I 67 7) * 3049) + 11273) - (((I 67 7) * 3049) + 11273) / 65536 * 65536)) / 8)]) (I' := (tup I 67 7 ((((I 67 7) * 3049) + 11273) - (((I 67 7) * 3049) + 11273) / 65536 * 65536))) (J' := J) (by with_unfolding_all rfl) ?_
    refine pq_irem hB rfl (fun _ => ?_)
    subst hq
    exact pq_2i (x := (((((((I 67 7) * 3049) + 11273) - (((I 67 7) * 3049) + 11273) / 65536 * 65536)) / 8) - ((((((I 67 7) * 3049) + 11273) - (((I 67 7) * 3049) + 11273) / 65536 * 65536)) / 8) / a0 * a0)) rfl ⟨rfl, rfl, rfl⟩
  · rw [h1, cond_false] at hq
    refine pq_s hB 1 (pc' := 6) (L' := [(0, .ref 67), (1, .int a0)]) (st' := [.int (-1)]) (I' := I) (J' := J) (by with_unfolding_all rfl) ?_
    subst hq
    exact pq_2i (x := (-1)) rfl ⟨rfl, rfl, rfl⟩
-- LP$Sights.areBeside
def f94 (I : tI) (J : tJ) (a0 : Int32) (a1 : Int32) : Int32 × tI × tJ :=
  (match f44 I J a0 with | (v1, I1, J1) => (match f44 I1 J1 a1 with | (v2, I2, J2) => (match f45 I2 J2 a0 with | (v3, I3, J3) => (match f45 I3 J3 a1 with | (v4, I4, J4) => bif xcmp .ne ((if 0 ≤ (v1 - v2) then (v1 - v2) else 0 - (v1 - v2)) + (if 0 ≤ (v3 - v4) then (v3 - v4) else 0 - (v3 - v4))) 1 then (0, I4, J4) else (1, I4, J4)))))
set_option maxRecDepth 100000 in
theorem f94_pq {sc : List Int32} {B : xM} {n : Nat} {I : tI} {J : tJ} {a0 : Int32} {a1 : Int32} (hB : kB pT B) : ∀ {q : Int32 × tI × tJ}, f94 I J a0 a1 = q → pq sc B n (xt_94, 4, 3) 0 [(0, .int a0), (1, .int a1)] [] I J (fun v I1 J1 => v = some (.int q.1) ∧ I1 = q.2.1 ∧ J1 = q.2.2) := by
  intro q hq
  unfold f94 at hq
  refine pq_s hB 1 (pc' := 1) (L' := [(0, .int a0), (1, .int a1)]) (st' := [.int a0]) (I' := I) (J' := J) (by with_unfolding_all rfl) ?_
  generalize hc1 : f44 I J a0 = q1 at hq
  obtain ⟨v1, _, _⟩ := q1
  dsimp only at hq
  refine pq_1 rfl rfl rfl rfl (f44_pq hB hc1) ?_
  rintro _ I1 J1 ⟨rfl, rfl, rfl⟩
  refine pq_s hB 1 (pc' := 5) (L' := [(0, .int a0), (1, .int a1)]) (st' := [.int a1, .int v1]) (I' := I1) (J' := J1) (by with_unfolding_all rfl) ?_
  generalize hc2 : f44 I1 J1 a1 = q2 at hq
  obtain ⟨v2, _, _⟩ := q2
  dsimp only at hq
  refine pq_1 rfl rfl rfl rfl (f44_pq hB hc2) ?_
  rintro _ I2 J2 ⟨rfl, rfl, rfl⟩
  refine pq_s hB 4 (pc' := 14) (L' := [(2, .int (if 0 ≤ (v1 - v2) then (v1 - v2) else 0 - (v1 - v2))), (0, .int a0), (1, .int a1)]) (st' := [.int a0]) (I' := I2) (J' := J2) (by with_unfolding_all rfl) ?_
  generalize hc3 : f45 I2 J2 a0 = q3 at hq
  obtain ⟨v3, _, _⟩ := q3
  dsimp only at hq
  refine pq_1 rfl rfl rfl rfl (f45_pq hB hc3) ?_
  rintro _ I3 J3 ⟨rfl, rfl, rfl⟩
  refine pq_s hB 1 (pc' := 18) (L' := [(2, .int (if 0 ≤ (v1 - v2) then (v1 - v2) else 0 - (v1 - v2))), (0, .int a0), (1, .int a1)]) (st' := [.int a1, .int v3]) (I' := I3) (J' := J3) (by with_unfolding_all rfl) ?_
  generalize hc4 : f45 I3 J3 a1 = q4 at hq
  obtain ⟨v4, _, _⟩ := q4
  dsimp only at hq
  refine pq_1 rfl rfl rfl rfl (f45_pq hB hc4) ?_
  rintro _ I4 J4 ⟨rfl, rfl, rfl⟩
  refine pq_s hB 7 (pc' := 30) (L' := [(3, .int (if 0 ≤ (v3 - v4) then (v3 - v4) else 0 - (v3 - v4))), (2, .int (if 0 ≤ (v1 - v2) then (v1 - v2) else 0 - (v1 - v2))), (0, .int a0), (1, .int a1)]) (st' := [.int 1, .int ((if 0 ≤ (v1 - v2) then (v1 - v2) else 0 - (v1 - v2)) + (if 0 ≤ (v3 - v4) then (v3 - v4) else 0 - (v3 - v4)))]) (I' := I4) (J' := J4) (by with_unfolding_all rfl) ?_
  refine pq_icn hB rfl (fun h5 => ?_) (fun h5 => ?_)
  · rw [h5, cond_true] at hq
    refine pq_s hB 1 (pc' := 38) (L' := [(3, .int (if 0 ≤ (v3 - v4) then (v3 - v4) else 0 - (v3 - v4))), (2, .int (if 0 ≤ (v1 - v2) then (v1 - v2) else 0 - (v1 - v2))), (0, .int a0), (1, .int a1)]) (st' := [.int 0]) (I' := I4) (J' := J4) (by with_unfolding_all rfl) ?_
    subst hq
    exact pq_2i (x := 0) rfl ⟨rfl, rfl, rfl⟩
  · rw [h5, cond_false] at hq
    refine pq_s hB 2 (pc' := 38) (L' := [(3, .int (if 0 ≤ (v3 - v4) then (v3 - v4) else 0 - (v3 - v4))), (2, .int (if 0 ≤ (v1 - v2) then (v1 - v2) else 0 - (v1 - v2))), (0, .int a0), (1, .int a1)]) (st' := [.int 1]) (I' := I4) (J' := J4) (by with_unfolding_all rfl) ?_
    subst hq
    exact pq_2i (x := 1) rfl ⟨rfl, rfl, rfl⟩
-- LP$Folk.setIn, the loop at 4, to [34]
def f16_12_l4 (N : Nat) : Nat → tI → tJ → Int32 → Int32 → Int32 → Option (Int32 × Int32 × Int32 × tI × tJ)
  | 0, _, _, _, _, _ => none
  | k + 1, I, J, x1, x2, x3 =>
    bif xcmp .ge x3 (I 12 0) then some (x1, x2, x3, I, J) else bif xcmp .ne (I 19 (x3).toNatClampNeg) x1 then f16_12_l4 N k I J x1 x2 (x3 + 1) else f16_12_l4 N k I J x1 (x2 ||| (1 <<< (x3 &&& 31))) (x3 + 1)
set_option maxRecDepth 100000 in
theorem f16_12_l4_pq {sc : List Int32} {B : xM} {N : Nat} {P : Option Value → tI → tJ → Prop} (hB : kB pT B) : ∀ (k : Nat), k ≤ N → ∀ (b m : Nat), b ≤ k → b ≤ m → ∀ {I : tI} {J : tJ} {x1 : Int32} {x2 : Int32} {x3 : Int32} {Y : Option (Int32 × Int32 × Int32 × tI × tJ)}, f16_12_l4 N k I J x1 x2 x3 = Y → (∀ {y1 : Int32} {y2 : Int32} {y3 : Int32} {I1 : tI} {J1 : tJ}, Y = some (y1, y2, y3, I1, J1) → pq sc B m (xt_16, 4, 1) 34 [(0, .ref 12), (1, .int y1), (2, .int y2), (3, .int y3)] [] I1 J1 P) → pq sc B b (xt_16, 4, 1) 4 [(0, .ref 12), (1, .int x1), (2, .int x2), (3, .int x3)] [] I J P
  | 0, _, b, _, hb, _, _, _, _, _, _, _, _, _ => by
    have e : b = 0 := by omega
    subst e
    exact pq_zero
  | _ + 1, _, 0, _, _, _, _, _, _, _, _, _, _, _ => pq_zero
  | k + 1, hk, b + 1, m, hb, hm, I, J, x1, x2, x3, Y, hq, hx0 => by
    unfold f16_12_l4 at hq
    have hle : b ≤ N := by omega
    refine pq_s1 hB 2 (pc' := 9) (L' := [(0, .ref 12), (1, .int x1), (2, .int x2), (3, .int x3)]) (st' := [.int (I 12 0), .int x3]) (I' := I) (J' := J) (by with_unfolding_all rfl) ?_
    refine pq_icn hB rfl (fun h1 => ?_) (fun h1 => ?_)
    · rw [h1, cond_true] at hq
      exact pq_le (by omega) (hx0 hq.symm)
    · rw [h1, cond_false] at hq
      refine pq_s hB 5 (pc' := 19) (L' := [(0, .ref 12), (1, .int x1), (2, .int x2), (3, .int x3)]) (st' := [.int x1, .int (I 19 (x3).toNatClampNeg)]) (I' := I) (J' := J) (by with_unfolding_all rfl) ?_
      refine pq_icn hB rfl (fun h2 => ?_) (fun h2 => ?_)
      · rw [h2, cond_true] at hq
        refine pq_s hB 2 (pc' := 4) (L' := [(3, .int (x3 + 1)), (0, .ref 12), (1, .int x1), (2, .int x2)]) (st' := []) (I' := I) (J' := J) (by with_unfolding_all rfl) ?_
        refine pq_perm (L := [(0, .ref 12), (1, .int x1), (2, .int x2), (3, .int (x3 + 1))]) (leqn_of ⟨rfl, rfl, rfl, rfl, trivial⟩ ⟨rfl, rfl, rfl, rfl, trivial⟩ ⟨rfl, rfl, rfl, rfl, trivial⟩) ?_
        exact f16_12_l4_pq hB k (by omega) b m (by omega) (by omega) hq hx0
      · rw [h2, cond_false] at hq
        refine pq_s hB 8 (pc' := 4) (L' := [(3, .int (x3 + 1)), (2, .int (x2 ||| (1 <<< (x3 &&& 31)))), (0, .ref 12), (1, .int x1)]) (st' := []) (I' := I) (J' := J) (by with_unfolding_all rfl) ?_
        refine pq_perm (L := [(0, .ref 12), (1, .int x1), (2, .int (x2 ||| (1 <<< (x3 &&& 31)))), (3, .int (x3 + 1))]) (leqn_of ⟨rfl, rfl, rfl, rfl, trivial⟩ ⟨rfl, rfl, rfl, rfl, trivial⟩ ⟨rfl, rfl, rfl, rfl, trivial⟩) ?_
        exact f16_12_l4_pq hB k (by omega) b m (by omega) (by omega) hq hx0
-- LP$Folk.setIn
def f16_12 (N : Nat) (I : tI) (J : tJ) (a0 : Int32) : Option (Int32 × tI × tJ) :=
  (match f16_12_l4 N N I J a0 0 0 with | none => none | some (y1_1, y1_2, y1_3, I1, J1) => some (y1_2, I1, J1))
set_option maxRecDepth 100000 in
theorem f16_12_pq {sc : List Int32} {B : xM} {N : Nat} {I : tI} {J : tJ} {a0 : Int32} (hB : kB pT B) : ∀ {X : Option (Int32 × tI × tJ)}, f16_12 N I J a0 = X → pq sc B N (xt_16, 4, 1) 0 [(0, .ref 12), (1, .int a0)] [] I J (fun v I1 J1 => ∃ a, v = some (.int a) ∧ X = some (a, I1, J1)) := by
  intro X hq
  unfold f16_12 at hq
  have hle : N ≤ N := Nat.le_refl N
  refine pq_s hB 4 (pc' := 4) (L' := [(3, .int 0), (2, .int 0), (0, .ref 12), (1, .int a0)]) (st' := []) (I' := I) (J' := J) (by with_unfolding_all rfl) ?_
  refine pq_perm (L := [(0, .ref 12), (1, .int a0), (2, .int 0), (3, .int 0)]) (leqn_of ⟨rfl, rfl, rfl, rfl, trivial⟩ ⟨rfl, rfl, rfl, rfl, trivial⟩ ⟨rfl, rfl, rfl, rfl, trivial⟩) ?_
  refine f16_12_l4_pq hB N (Nat.le_refl N) N N hle (Nat.le_refl N) rfl ?_
  intro y1_1 y1_2 y1_3 I1 J1 hc1
  rw [hc1] at hq
  dsimp only at hq
  refine pq_s hB 1 (pc' := 35) (L' := [(0, .ref 12), (1, .int y1_1), (2, .int y1_2), (3, .int y1_3)]) (st' := [.int y1_2]) (I' := I1) (J' := J1) (by with_unfolding_all rfl) ?_
  subst hq
  exact pq_2i (x := y1_2) rfl ⟨_, rfl, rfl⟩
-- LP$Sights.isShown
def f93_21_12 (N : Nat) (I : tI) (J : tJ) (a0 : Int32) : Option (Int32 × tI × tJ) :=
  bif xcmp .ne (I 23 (a0).toNatClampNeg) 2 then (match f12_12 I J (I 24 (a0).toNatClampNeg) with | (v2, I2, J2) => bif xcmp .ne v2 (-1) then (bif xcmp .ne (I2 23 (a0).toNatClampNeg) 0 then (match f12_12 I2 J2 (I2 25 (a0).toNatClampNeg) with | (v5, I5, J5) => bif xcmp .eq v5 (-1) then some (0, I5, J5) else (match f94 I5 J5 v2 v5 with | (v7, I7, J7) => bif xcmp .eq v7 0 then some (0, I7, J7) else some (1, I7, J7))) else bif xcmp .ne v2 (I2 25 (a0).toNatClampNeg) then some (0, I2, J2) else some (1, I2, J2)) else some (0, I2, J2)) else (match f16_12 N I J 1 with | none => none | some (v10, I10, J10) => bif xcmp .ne v10 0 then some (0, I10, J10) else some (1, I10, J10))
set_option maxRecDepth 100000 in
theorem f93_21_12_pq {sc : List Int32} {B : xM} {N : Nat} {I : tI} {J : tJ} {a0 : Int32} (hB : kB pT B) : ∀ {X : Option (Int32 × tI × tJ)}, f93_21_12 N I J a0 = X → pq sc B N (xt_93, 5, 3) 0 [(0, .ref 21), (1, .int a0), (2, .ref 12)] [] I J (fun v I1 J1 => ∃ a, v = some (.int a) ∧ X = some (a, I1, J1)) := by
  intro X hq
  unfold f93_21_12 at hq
  have hle : N ≤ N := Nat.le_refl N
  refine pq_s hB 5 (pc' := 7) (L' := [(0, .ref 21), (1, .int a0), (2, .ref 12)]) (st' := [.int 2, .int (I 23 (a0).toNatClampNeg)]) (I' := I) (J' := J) (by with_unfolding_all rfl) ?_
  refine pq_icn hB rfl (fun h1 => ?_) (fun h1 => ?_)
  · rw [h1, cond_true] at hq
    refine pq_s hB 5 (pc' := 31) (L' := [(0, .ref 21), (1, .int a0), (2, .ref 12)]) (st' := [.int (I 24 (a0).toNatClampNeg), .ref 12]) (I' := I) (J' := J) (by with_unfolding_all rfl) ?_
    generalize hc2 : f12_12 I J (I 24 (a0).toNatClampNeg) = q2 at hq
    obtain ⟨v2, _, _⟩ := q2
    dsimp only at hq
    refine pq_1 rfl rfl rfl rfl (f12_12_pq hB hc2) ?_
    rintro _ I2 J2 ⟨rfl, rfl, rfl⟩
    refine pq_s hB 3 (pc' := 37) (L' := [(3, .int v2), (0, .ref 21), (1, .int a0), (2, .ref 12)]) (st' := [.int (-1), .int v2]) (I' := I2) (J' := J2) (by with_unfolding_all rfl) ?_
    refine pq_icn hB rfl (fun h3 => ?_) (fun h3 => ?_)
    · rw [h3, cond_true] at hq
      refine pq_s hB 4 (pc' := 48) (L' := [(3, .int v2), (0, .ref 21), (1, .int a0), (2, .ref 12)]) (st' := [.int (I2 23 (a0).toNatClampNeg)]) (I' := I2) (J' := J2) (by with_unfolding_all rfl) ?_
      refine pq_ifn hB rfl (fun h4 => ?_) (fun h4 => ?_)
      · rw [h4, cond_true] at hq
        refine pq_s hB 5 (pc' := 74) (L' := [(3, .int v2), (0, .ref 21), (1, .int a0), (2, .ref 12)]) (st' := [.int (I2 25 (a0).toNatClampNeg), .ref 12]) (I' := I2) (J' := J2) (by with_unfolding_all rfl) ?_
        generalize hc5 : f12_12 I2 J2 (I2 25 (a0).toNatClampNeg) = q5 at hq
        obtain ⟨v5, _, _⟩ := q5
        dsimp only at hq
        refine pq_1 rfl rfl rfl rfl (f12_12_pq hB hc5) ?_
        rintro _ I5 J5 ⟨rfl, rfl, rfl⟩
        refine pq_s hB 3 (pc' := 82) (L' := [(4, .int v5), (3, .int v2), (0, .ref 21), (1, .int a0), (2, .ref 12)]) (st' := [.int (-1), .int v5]) (I' := I5) (J' := J5) (by with_unfolding_all rfl) ?_
        refine pq_icn hB rfl (fun h6 => ?_) (fun h6 => ?_)
        · rw [h6, cond_true] at hq
          refine pq_s hB 1 (pc' := 99) (L' := [(4, .int v5), (3, .int v2), (0, .ref 21), (1, .int a0), (2, .ref 12)]) (st' := [.int 0]) (I' := I5) (J' := J5) (by with_unfolding_all rfl) ?_
          subst hq
          exact pq_2i (x := 0) rfl ⟨_, rfl, rfl⟩
        · rw [h6, cond_false] at hq
          refine pq_s hB 2 (pc' := 88) (L' := [(4, .int v5), (3, .int v2), (0, .ref 21), (1, .int a0), (2, .ref 12)]) (st' := [.int v5, .int v2]) (I' := I5) (J' := J5) (by with_unfolding_all rfl) ?_
          generalize hc7 : f94 I5 J5 v2 v5 = q7 at hq
          obtain ⟨v7, _, _⟩ := q7
          dsimp only at hq
          refine pq_1 rfl rfl rfl rfl (f94_pq hB hc7) ?_
          rintro _ I7 J7 ⟨rfl, rfl, rfl⟩
          refine pq_ifn hB rfl (fun h8 => ?_) (fun h8 => ?_)
          · rw [h8, cond_true] at hq
            refine pq_s hB 1 (pc' := 99) (L' := [(4, .int v5), (3, .int v2), (0, .ref 21), (1, .int a0), (2, .ref 12)]) (st' := [.int 0]) (I' := I7) (J' := J7) (by with_unfolding_all rfl) ?_
            subst hq
            exact pq_2i (x := 0) rfl ⟨_, rfl, rfl⟩
          · rw [h8, cond_false] at hq
            refine pq_s hB 2 (pc' := 99) (L' := [(4, .int v5), (3, .int v2), (0, .ref 21), (1, .int a0), (2, .ref 12)]) (st' := [.int 1]) (I' := I7) (J' := J7) (by with_unfolding_all rfl) ?_
            subst hq
            exact pq_2i (x := 1) rfl ⟨_, rfl, rfl⟩
      · rw [h4, cond_false] at hq
        refine pq_s hB 5 (pc' := 58) (L' := [(3, .int v2), (0, .ref 21), (1, .int a0), (2, .ref 12)]) (st' := [.int (I2 25 (a0).toNatClampNeg), .int v2]) (I' := I2) (J' := J2) (by with_unfolding_all rfl) ?_
        refine pq_icn hB rfl (fun h9 => ?_) (fun h9 => ?_)
        · rw [h9, cond_true] at hq
          refine pq_s hB 1 (pc' := 66) (L' := [(3, .int v2), (0, .ref 21), (1, .int a0), (2, .ref 12)]) (st' := [.int 0]) (I' := I2) (J' := J2) (by with_unfolding_all rfl) ?_
          subst hq
          exact pq_2i (x := 0) rfl ⟨_, rfl, rfl⟩
        · rw [h9, cond_false] at hq
          refine pq_s hB 2 (pc' := 66) (L' := [(3, .int v2), (0, .ref 21), (1, .int a0), (2, .ref 12)]) (st' := [.int 1]) (I' := I2) (J' := J2) (by with_unfolding_all rfl) ?_
          subst hq
          exact pq_2i (x := 1) rfl ⟨_, rfl, rfl⟩
    · rw [h3, cond_false] at hq
      refine pq_s hB 1 (pc' := 41) (L' := [(3, .int v2), (0, .ref 21), (1, .int a0), (2, .ref 12)]) (st' := [.int 0]) (I' := I2) (J' := J2) (by with_unfolding_all rfl) ?_
      subst hq
      exact pq_2i (x := 0) rfl ⟨_, rfl, rfl⟩
  · rw [h1, cond_false] at hq
    refine pq_s hB 2 (pc' := 12) (L' := [(0, .ref 21), (1, .int a0), (2, .ref 12)]) (st' := [.int 1, .ref 12]) (I' := I) (J' := J) (by with_unfolding_all rfl) ?_
    refine pq_1 rfl rfl rfl rfl (pq_le hle (f16_12_pq hB rfl)) ?_
    rintro _ I10 J10 ⟨v10, rfl, hc10⟩
    rw [hc10] at hq
    dsimp only at hq
    refine pq_ifn hB rfl (fun h11 => ?_) (fun h11 => ?_)
    · rw [h11, cond_true] at hq
      refine pq_s hB 1 (pc' := 23) (L' := [(0, .ref 21), (1, .int a0), (2, .ref 12)]) (st' := [.int 0]) (I' := I10) (J' := J10) (by with_unfolding_all rfl) ?_
      subst hq
      exact pq_2i (x := 0) rfl ⟨_, rfl, rfl⟩
    · rw [h11, cond_false] at hq
      refine pq_s hB 2 (pc' := 23) (L' := [(0, .ref 21), (1, .int a0), (2, .ref 12)]) (st' := [.int 1]) (I' := I10) (J' := J10) (by with_unfolding_all rfl) ?_
      subst hq
      exact pq_2i (x := 1) rfl ⟨_, rfl, rfl⟩
-- LP$Runner.isSo
def f65_10 (N : Nat) (I : tI) (J : tJ) (a0 : Int32) : Option (Int32 × tI × tJ) :=
  bif xcmp .eq (I 27 (a0).toNatClampNeg) 6 then ((match f93_21_12 N I J (I 28 (a0).toNatClampNeg) with | none => none | some (v2, I2, J2) => some (v2, I2, J2))) else bif xcmp .eq (I 27 (a0).toNatClampNeg) 7 then ((match f12_12 I J (I 28 (a0).toNatClampNeg) with | (v4, I4, J4) => bif xcmp .eq v4 (-1) then some (0, I4, J4) else some (1, I4, J4))) else bif xcmp .eq (I 27 (a0).toNatClampNeg) 8 then (bif xcmp .ge (I 32 ((I 28 (a0).toNatClampNeg)).toNatClampNeg) (I 29 (a0).toNatClampNeg) then some (0, I, J) else some (1, I, J)) else bif xcmp .eq (I 27 (a0).toNatClampNeg) 9 then (bif xcmp .le (I 32 ((I 28 (a0).toNatClampNeg)).toNatClampNeg) (I 29 (a0).toNatClampNeg) then some (0, I, J) else some (1, I, J)) else bif xcmp .ne (I 32 ((I 28 (a0).toNatClampNeg)).toNatClampNeg) (I 29 (a0).toNatClampNeg) then some (0, I, J) else some (1, I, J)
set_option maxRecDepth 100000 in
theorem f65_10_pq {sc : List Int32} {B : xM} {N : Nat} {I : tI} {J : tJ} {a0 : Int32} (hB : kB pT B) : ∀ {X : Option (Int32 × tI × tJ)}, f65_10 N I J a0 = X → pq sc B N (xt_65, 4, 3) 0 [(0, .ref 10), (1, .int a0)] [] I J (fun v I1 J1 => ∃ a, v = some (.int a) ∧ X = some (a, I1, J1)) := by
  intro X hq
  unfold f65_10 at hq
  have hle : N ≤ N := Nat.le_refl N
  refine pq_s hB 17 (pc' := 29) (L' := [(3, .int (I 29 (a0).toNatClampNeg)), (2, .int (I 28 (a0).toNatClampNeg)), (0, .ref 10), (1, .int a0)]) (st' := [.int (I 27 (a0).toNatClampNeg)]) (I' := I) (J' := J) (by with_unfolding_all rfl) ?_
  cases h1 : xcmp .eq (I 27 (a0).toNatClampNeg) 6 with
  | true =>
    rw [h1, cond_true] at hq
    refine pq_tsw_k hB (c := 6) (t := 60) rfl h1 rfl ?_
    refine pq_s hB 5 (pc' := 69) (L' := [(3, .int (I 29 (a0).toNatClampNeg)), (2, .int (I 28 (a0).toNatClampNeg)), (0, .ref 10), (1, .int a0)]) (st' := [.ref 12, .int (I 28 (a0).toNatClampNeg), .ref 21]) (I' := I) (J' := J) (by with_unfolding_all rfl) ?_
    refine pq_1 rfl rfl rfl rfl (pq_le hle (f93_21_12_pq hB rfl)) ?_
    rintro _ I2 J2 ⟨v2, rfl, hc2⟩
    rw [hc2] at hq
    dsimp only at hq
    subst hq
    exact pq_2i (x := v2) rfl ⟨_, rfl, rfl⟩
  | false =>
    rw [h1, cond_false] at hq
    cases h3 : xcmp .eq (I 27 (a0).toNatClampNeg) 7 with
    | true =>
      rw [h3, cond_true] at hq
      refine pq_tsw_k hB (c := 7) (t := 73) rfl h3 rfl ?_
      refine pq_s hB 3 (pc' := 78) (L' := [(3, .int (I 29 (a0).toNatClampNeg)), (2, .int (I 28 (a0).toNatClampNeg)), (0, .ref 10), (1, .int a0)]) (st' := [.int (I 28 (a0).toNatClampNeg), .ref 12]) (I' := I) (J' := J) (by with_unfolding_all rfl) ?_
      generalize hc4 : f12_12 I J (I 28 (a0).toNatClampNeg) = q4 at hq
      obtain ⟨v4, _, _⟩ := q4
      dsimp only at hq
      refine pq_1 rfl rfl rfl rfl (f12_12_pq hB hc4) ?_
      rintro _ I4 J4 ⟨rfl, rfl, rfl⟩
      refine pq_s hB 1 (pc' := 82) (L' := [(3, .int (I 29 (a0).toNatClampNeg)), (2, .int (I 28 (a0).toNatClampNeg)), (0, .ref 10), (1, .int a0)]) (st' := [.int (-1), .int v4]) (I' := I4) (J' := J4) (by with_unfolding_all rfl) ?_
      refine pq_icn hB rfl (fun h5 => ?_) (fun h5 => ?_)
      · rw [h5, cond_true] at hq
        refine pq_s hB 1 (pc' := 90) (L' := [(3, .int (I 29 (a0).toNatClampNeg)), (2, .int (I 28 (a0).toNatClampNeg)), (0, .ref 10), (1, .int a0)]) (st' := [.int 0]) (I' := I4) (J' := J4) (by with_unfolding_all rfl) ?_
        subst hq
        exact pq_2i (x := 0) rfl ⟨_, rfl, rfl⟩
      · rw [h5, cond_false] at hq
        refine pq_s hB 2 (pc' := 90) (L' := [(3, .int (I 29 (a0).toNatClampNeg)), (2, .int (I 28 (a0).toNatClampNeg)), (0, .ref 10), (1, .int a0)]) (st' := [.int 1]) (I' := I4) (J' := J4) (by with_unfolding_all rfl) ?_
        subst hq
        exact pq_2i (x := 1) rfl ⟨_, rfl, rfl⟩
    | false =>
      rw [h3, cond_false] at hq
      cases h6 : xcmp .eq (I 27 (a0).toNatClampNeg) 8 with
      | true =>
        rw [h6, cond_true] at hq
        refine pq_tsw_k hB (c := 8) (t := 91) rfl h6 rfl ?_
        refine pq_s hB 5 (pc' := 98) (L' := [(3, .int (I 29 (a0).toNatClampNeg)), (2, .int (I 28 (a0).toNatClampNeg)), (0, .ref 10), (1, .int a0)]) (st' := [.int (I 29 (a0).toNatClampNeg), .int (I 32 ((I 28 (a0).toNatClampNeg)).toNatClampNeg)]) (I' := I) (J' := J) (by with_unfolding_all rfl) ?_
        refine pq_icn hB rfl (fun h7 => ?_) (fun h7 => ?_)
        · rw [h7, cond_true] at hq
          refine pq_s hB 1 (pc' := 106) (L' := [(3, .int (I 29 (a0).toNatClampNeg)), (2, .int (I 28 (a0).toNatClampNeg)), (0, .ref 10), (1, .int a0)]) (st' := [.int 0]) (I' := I) (J' := J) (by with_unfolding_all rfl) ?_
          subst hq
          exact pq_2i (x := 0) rfl ⟨_, rfl, rfl⟩
        · rw [h7, cond_false] at hq
          refine pq_s hB 2 (pc' := 106) (L' := [(3, .int (I 29 (a0).toNatClampNeg)), (2, .int (I 28 (a0).toNatClampNeg)), (0, .ref 10), (1, .int a0)]) (st' := [.int 1]) (I' := I) (J' := J) (by with_unfolding_all rfl) ?_
          subst hq
          exact pq_2i (x := 1) rfl ⟨_, rfl, rfl⟩
      | false =>
        rw [h6, cond_false] at hq
        cases h8 : xcmp .eq (I 27 (a0).toNatClampNeg) 9 with
        | true =>
          rw [h8, cond_true] at hq
          refine pq_tsw_k hB (c := 9) (t := 107) rfl h8 rfl ?_
          refine pq_s hB 5 (pc' := 114) (L' := [(3, .int (I 29 (a0).toNatClampNeg)), (2, .int (I 28 (a0).toNatClampNeg)), (0, .ref 10), (1, .int a0)]) (st' := [.int (I 29 (a0).toNatClampNeg), .int (I 32 ((I 28 (a0).toNatClampNeg)).toNatClampNeg)]) (I' := I) (J' := J) (by with_unfolding_all rfl) ?_
          refine pq_icn hB rfl (fun h9 => ?_) (fun h9 => ?_)
          · rw [h9, cond_true] at hq
            refine pq_s hB 1 (pc' := 122) (L' := [(3, .int (I 29 (a0).toNatClampNeg)), (2, .int (I 28 (a0).toNatClampNeg)), (0, .ref 10), (1, .int a0)]) (st' := [.int 0]) (I' := I) (J' := J) (by with_unfolding_all rfl) ?_
            subst hq
            exact pq_2i (x := 0) rfl ⟨_, rfl, rfl⟩
          · rw [h9, cond_false] at hq
            refine pq_s hB 2 (pc' := 122) (L' := [(3, .int (I 29 (a0).toNatClampNeg)), (2, .int (I 28 (a0).toNatClampNeg)), (0, .ref 10), (1, .int a0)]) (st' := [.int 1]) (I' := I) (J' := J) (by with_unfolding_all rfl) ?_
            subst hq
            exact pq_2i (x := 1) rfl ⟨_, rfl, rfl⟩
        | false =>
          rw [h8, cond_false] at hq
          refine pq_tsw_d hB (cs := [6, 7, 8, 9]) rfl rfl rfl (List.forall_mem_cons.mpr ⟨h1, List.forall_mem_cons.mpr ⟨h3, List.forall_mem_cons.mpr ⟨h6, List.forall_mem_cons.mpr ⟨h8, fun c hc => by cases hc⟩⟩⟩⟩) ?_
          show pq sc B _ _ 123 _ _ _ _ _
          refine pq_s hB 5 (pc' := 130) (L' := [(3, .int (I 29 (a0).toNatClampNeg)), (2, .int (I 28 (a0).toNatClampNeg)), (0, .ref 10), (1, .int a0)]) (st' := [.int (I 29 (a0).toNatClampNeg), .int (I 32 ((I 28 (a0).toNatClampNeg)).toNatClampNeg)]) (I' := I) (J' := J) (by with_unfolding_all rfl) ?_
          refine pq_icn hB rfl (fun h10 => ?_) (fun h10 => ?_)
          · rw [h10, cond_true] at hq
            refine pq_s hB 1 (pc' := 138) (L' := [(3, .int (I 29 (a0).toNatClampNeg)), (2, .int (I 28 (a0).toNatClampNeg)), (0, .ref 10), (1, .int a0)]) (st' := [.int 0]) (I' := I) (J' := J) (by with_unfolding_all rfl) ?_
            subst hq
            exact pq_2i (x := 0) rfl ⟨_, rfl, rfl⟩
          · rw [h10, cond_false] at hq
            refine pq_s hB 2 (pc' := 138) (L' := [(3, .int (I 29 (a0).toNatClampNeg)), (2, .int (I 28 (a0).toNatClampNeg)), (0, .ref 10), (1, .int a0)]) (st' := [.int 1]) (I' := I) (J' := J) (by with_unfolding_all rfl) ?_
            subst hq
            exact pq_2i (x := 1) rfl ⟨_, rfl, rfl⟩
-- LP$Runner.behindAct
def f64_67_10 (N : Nat) (I : tI) (J : tJ) (a0 : Int32) : Option (Int32 × tI × tJ) :=
  bif xcmp .eq (I 27 (a0).toNatClampNeg) 0 then ((match f66_67_10 N I J (I 28 (a0).toNatClampNeg) (I 29 (a0).toNatClampNeg) with | none => none | some (_, I2, J2) => some ((a0 + 1), I2, J2))) else bif xcmp .eq (I 27 (a0).toNatClampNeg) 1 then ((match f67_67_10 N I J (I 28 (a0).toNatClampNeg) with | none => none | some (_, I4, J4) => some ((a0 + 1), I4, J4))) else bif xcmp .eq (I 27 (a0).toNatClampNeg) 2 then ((match f68_67_10 N I J (I 28 (a0).toNatClampNeg) (I 29 (a0).toNatClampNeg) with | none => none | some (_, I6, J6) => some ((a0 + 1), I6, J6))) else bif xcmp .eq (I 27 (a0).toNatClampNeg) 3 then ((match f69_67 I J (I 10 6) with | (v8, I8, J8) => (match f66_67_10 N I8 J8 v8 1 with | none => none | some (_, I9, J9) => some ((a0 + 1), I9, J9)))) else bif xcmp .eq (I 27 (a0).toNatClampNeg) 4 then (some ((I 26 2), I, J)) else bif xcmp .eq (I 27 (a0).toNatClampNeg) 5 then (some ((a0 + 1), (tup I 92 ((a0).toNatClampNeg) (I 28 (a0).toNatClampNeg)), J)) else (match f65_10 N I J a0 with | none => none | some (v12, I12, J12) => bif xcmp .eq v12 0 then some (((I12 30 (a0).toNatClampNeg) + 1), I12, J12) else some ((a0 + 1), I12, J12))
set_option maxRecDepth 100000 in
theorem f64_67_10_pq {sc : List Int32} {B : xM} {N : Nat} {I : tI} {J : tJ} {a0 : Int32} (hB : kB pT B) : ∀ {X : Option (Int32 × tI × tJ)}, f64_67_10 N I J a0 = X → pq sc B N (xt_64, 6, 1) 0 [(0, .ref 67), (1, .ref 10), (2, .int a0)] [] I J (fun v I1 J1 => ∃ a, v = some (.int a) ∧ X = some (a, I1, J1)) := by
  intro X hq
  unfold f64_67_10 at hq
  have hle : N ≤ N := Nat.le_refl N
  refine pq_s hB 17 (pc' := 27) (L' := [(5, .int (I 29 (a0).toNatClampNeg)), (4, .int (I 28 (a0).toNatClampNeg)), (3, .ref 26), (0, .ref 67), (1, .ref 10), (2, .int a0)]) (st' := [.int (I 27 (a0).toNatClampNeg)]) (I' := I) (J' := J) (by with_unfolding_all rfl) ?_
  cases h1 : xcmp .eq (I 27 (a0).toNatClampNeg) 0 with
  | true =>
    rw [h1, cond_true] at hq
    refine pq_tsw_k hB (c := 0) (t := 64) rfl h1 rfl ?_
    refine pq_s hB 4 (pc' := 70) (L' := [(5, .int (I 29 (a0).toNatClampNeg)), (4, .int (I 28 (a0).toNatClampNeg)), (3, .ref 26), (0, .ref 67), (1, .ref 10), (2, .int a0)]) (st' := [.int (I 29 (a0).toNatClampNeg), .int (I 28 (a0).toNatClampNeg), .ref 10, .ref 67]) (I' := I) (J' := J) (by with_unfolding_all rfl) ?_
    refine pq_1 rfl rfl rfl rfl (pq_le hle (f66_67_10_pq hB rfl)) ?_
    rintro _ I2 J2 ⟨rfl, hc2⟩
    rw [hc2] at hq
    dsimp only at hq
    refine pq_s hB 3 (pc' := 76) (L' := [(5, .int (I 29 (a0).toNatClampNeg)), (4, .int (I 28 (a0).toNatClampNeg)), (3, .ref 26), (0, .ref 67), (1, .ref 10), (2, .int a0)]) (st' := [.int (a0 + 1)]) (I' := I2) (J' := J2) (by with_unfolding_all rfl) ?_
    subst hq
    exact pq_2i (x := (a0 + 1)) rfl ⟨_, rfl, rfl⟩
  | false =>
    rw [h1, cond_false] at hq
    cases h3 : xcmp .eq (I 27 (a0).toNatClampNeg) 1 with
    | true =>
      rw [h3, cond_true] at hq
      refine pq_tsw_k hB (c := 1) (t := 77) rfl h3 rfl ?_
      refine pq_s hB 3 (pc' := 81) (L' := [(5, .int (I 29 (a0).toNatClampNeg)), (4, .int (I 28 (a0).toNatClampNeg)), (3, .ref 26), (0, .ref 67), (1, .ref 10), (2, .int a0)]) (st' := [.int (I 28 (a0).toNatClampNeg), .ref 10, .ref 67]) (I' := I) (J' := J) (by with_unfolding_all rfl) ?_
      refine pq_1 rfl rfl rfl rfl (pq_le hle (f67_67_10_pq hB rfl)) ?_
      rintro _ I4 J4 ⟨rfl, hc4⟩
      rw [hc4] at hq
      dsimp only at hq
      refine pq_s hB 3 (pc' := 87) (L' := [(5, .int (I 29 (a0).toNatClampNeg)), (4, .int (I 28 (a0).toNatClampNeg)), (3, .ref 26), (0, .ref 67), (1, .ref 10), (2, .int a0)]) (st' := [.int (a0 + 1)]) (I' := I4) (J' := J4) (by with_unfolding_all rfl) ?_
      subst hq
      exact pq_2i (x := (a0 + 1)) rfl ⟨_, rfl, rfl⟩
    | false =>
      rw [h3, cond_false] at hq
      cases h5 : xcmp .eq (I 27 (a0).toNatClampNeg) 2 with
      | true =>
        rw [h5, cond_true] at hq
        refine pq_tsw_k hB (c := 2) (t := 88) rfl h5 rfl ?_
        refine pq_s hB 4 (pc' := 94) (L' := [(5, .int (I 29 (a0).toNatClampNeg)), (4, .int (I 28 (a0).toNatClampNeg)), (3, .ref 26), (0, .ref 67), (1, .ref 10), (2, .int a0)]) (st' := [.int (I 29 (a0).toNatClampNeg), .int (I 28 (a0).toNatClampNeg), .ref 10, .ref 67]) (I' := I) (J' := J) (by with_unfolding_all rfl) ?_
        refine pq_1 rfl rfl rfl rfl (pq_le hle (f68_67_10_pq hB rfl)) ?_
        rintro _ I6 J6 ⟨rfl, hc6⟩
        rw [hc6] at hq
        dsimp only at hq
        refine pq_s hB 3 (pc' := 100) (L' := [(5, .int (I 29 (a0).toNatClampNeg)), (4, .int (I 28 (a0).toNatClampNeg)), (3, .ref 26), (0, .ref 67), (1, .ref 10), (2, .int a0)]) (st' := [.int (a0 + 1)]) (I' := I6) (J' := J6) (by with_unfolding_all rfl) ?_
        subst hq
        exact pq_2i (x := (a0 + 1)) rfl ⟨_, rfl, rfl⟩
      | false =>
        rw [h5, cond_false] at hq
        cases h7 : xcmp .eq (I 27 (a0).toNatClampNeg) 3 with
        | true =>
          rw [h7, cond_true] at hq
          refine pq_tsw_k hB (c := 3) (t := 101) rfl h7 rfl ?_
          refine pq_s hB 5 (pc' := 108) (L' := [(5, .int (I 29 (a0).toNatClampNeg)), (4, .int (I 28 (a0).toNatClampNeg)), (3, .ref 26), (0, .ref 67), (1, .ref 10), (2, .int a0)]) (st' := [.int (I 10 6), .ref 67, .ref 10, .ref 67]) (I' := I) (J' := J) (by with_unfolding_all rfl) ?_
          generalize hc8 : f69_67 I J (I 10 6) = q8 at hq
          obtain ⟨v8, _, _⟩ := q8
          dsimp only at hq
          refine pq_1 rfl rfl rfl rfl (f69_67_pq hB hc8) ?_
          rintro _ I8 J8 ⟨rfl, rfl, rfl⟩
          refine pq_s hB 1 (pc' := 112) (L' := [(5, .int (I 29 (a0).toNatClampNeg)), (4, .int (I 28 (a0).toNatClampNeg)), (3, .ref 26), (0, .ref 67), (1, .ref 10), (2, .int a0)]) (st' := [.int 1, .int v8, .ref 10, .ref 67]) (I' := I8) (J' := J8) (by with_unfolding_all rfl) ?_
          refine pq_1 rfl rfl rfl rfl (pq_le hle (f66_67_10_pq hB rfl)) ?_
          rintro _ I9 J9 ⟨rfl, hc9⟩
          rw [hc9] at hq
          dsimp only at hq
          refine pq_s hB 3 (pc' := 118) (L' := [(5, .int (I 29 (a0).toNatClampNeg)), (4, .int (I 28 (a0).toNatClampNeg)), (3, .ref 26), (0, .ref 67), (1, .ref 10), (2, .int a0)]) (st' := [.int (a0 + 1)]) (I' := I9) (J' := J9) (by with_unfolding_all rfl) ?_
          subst hq
          exact pq_2i (x := (a0 + 1)) rfl ⟨_, rfl, rfl⟩
        | false =>
          rw [h7, cond_false] at hq
          cases h10 : xcmp .eq (I 27 (a0).toNatClampNeg) 4 with
          | true =>
            rw [h10, cond_true] at hq
            refine pq_tsw_k hB (c := 4) (t := 119) rfl h10 rfl ?_
            refine pq_s hB 2 (pc' := 123) (L' := [(5, .int (I 29 (a0).toNatClampNeg)), (4, .int (I 28 (a0).toNatClampNeg)), (3, .ref 26), (0, .ref 67), (1, .ref 10), (2, .int a0)]) (st' := [.int (I 26 2)]) (I' := I) (J' := J) (by with_unfolding_all rfl) ?_
            subst hq
            exact pq_2i (x := (I 26 2)) rfl ⟨_, rfl, rfl⟩
          | false =>
            rw [h10, cond_false] at hq
            cases h11 : xcmp .eq (I 27 (a0).toNatClampNeg) 5 with
            | true =>
              rw [h11, cond_true] at hq
              refine pq_tsw_k hB (c := 5) (t := 124) rfl h11 rfl ?_
              refine pq_s hB 8 (pc' := 135) (L' := [(5, .int (I 29 (a0).toNatClampNeg)), (4, .int (I 28 (a0).toNatClampNeg)), (3, .ref 26), (0, .ref 67), (1, .ref 10), (2, .int a0)]) (st' := [.int (a0 + 1)]) (I' := (tup I 92 ((a0).toNatClampNeg) (I 28 (a0).toNatClampNeg))) (J' := J) (by with_unfolding_all rfl) ?_
              subst hq
              exact pq_2i (x := (a0 + 1)) rfl ⟨_, rfl, rfl⟩
            | false =>
              rw [h11, cond_false] at hq
              refine pq_tsw_d hB (cs := [0, 1, 2, 3, 4, 5]) rfl rfl rfl (List.forall_mem_cons.mpr ⟨h1, List.forall_mem_cons.mpr ⟨h3, List.forall_mem_cons.mpr ⟨h5, List.forall_mem_cons.mpr ⟨h7, List.forall_mem_cons.mpr ⟨h10, List.forall_mem_cons.mpr ⟨h11, fun c hc => by cases hc⟩⟩⟩⟩⟩⟩) ?_
              show pq sc B _ _ 136 _ _ _ _ _
              refine pq_s hB 2 (pc' := 138) (L' := [(5, .int (I 29 (a0).toNatClampNeg)), (4, .int (I 28 (a0).toNatClampNeg)), (3, .ref 26), (0, .ref 67), (1, .ref 10), (2, .int a0)]) (st' := [.int a0, .ref 10]) (I' := I) (J' := J) (by with_unfolding_all rfl) ?_
              refine pq_1 rfl rfl rfl rfl (pq_le hle (f65_10_pq hB rfl)) ?_
              rintro _ I12 J12 ⟨v12, rfl, hc12⟩
              rw [hc12] at hq
              dsimp only at hq
              refine pq_ifn hB rfl (fun h13 => ?_) (fun h13 => ?_)
              · rw [h13, cond_true] at hq
                refine pq_s hB 6 (pc' := 158) (L' := [(5, .int (I 29 (a0).toNatClampNeg)), (4, .int (I 28 (a0).toNatClampNeg)), (3, .ref 26), (0, .ref 67), (1, .ref 10), (2, .int a0)]) (st' := [.int ((I12 30 (a0).toNatClampNeg) + 1)]) (I' := I12) (J' := J12) (by with_unfolding_all rfl) ?_
                subst hq
                exact pq_2i (x := ((I12 30 (a0).toNatClampNeg) + 1)) rfl ⟨_, rfl, rfl⟩
              · rw [h13, cond_false] at hq
                refine pq_s hB 4 (pc' := 158) (L' := [(5, .int (I 29 (a0).toNatClampNeg)), (4, .int (I 28 (a0).toNatClampNeg)), (3, .ref 26), (0, .ref 67), (1, .ref 10), (2, .int a0)]) (st' := [.int (a0 + 1)]) (I' := I12) (J' := J12) (by with_unfolding_all rfl) ?_
                subst hq
                exact pq_2i (x := (a0 + 1)) rfl ⟨_, rfl, rfl⟩
-- LP$Runner.behindEnd
def f63_67_26 (I : tI) (J : tJ) (a0 : Int32) : Int32 × tI × tJ :=
  (match f127 I J (I 30 (a0).toNatClampNeg) 0 ((I 26 2) - 1) with | (v1, I1, J1) => bif xcmp .eq v1 0 then ((a0 + 1), I1, J1) else bif xcmp .eq (I1 27 ((I 30 (a0).toNatClampNeg)).toNatClampNeg) 5 then (bif xcmp .le ((tup I1 92 (((I 30 (a0).toNatClampNeg)).toNatClampNeg) ((I1 92 ((I 30 (a0).toNatClampNeg)).toNatClampNeg) - 1)) 92 (((I 30 (a0).toNatClampNeg)).toNatClampNeg)) 0 then ((a0 + 1), (tup I1 92 (((I 30 (a0).toNatClampNeg)).toNatClampNeg) ((I1 92 ((I 30 (a0).toNatClampNeg)).toNatClampNeg) - 1)), J1) else (((I 30 (a0).toNatClampNeg) + 1), (tup I1 92 (((I 30 (a0).toNatClampNeg)).toNatClampNeg) ((I1 92 ((I 30 (a0).toNatClampNeg)).toNatClampNeg) - 1)), J1)) else ((a0 + 1), I1, J1))
set_option maxRecDepth 100000 in
theorem f63_67_26_pq {sc : List Int32} {B : xM} {n : Nat} {I : tI} {J : tJ} {a0 : Int32} (hB : kB pT B) : ∀ {q : Int32 × tI × tJ}, f63_67_26 I J a0 = q → pq sc B n (xt_63, 4, 1) 0 [(0, .ref 67), (1, .ref 26), (2, .int a0)] [] I J (fun v I1 J1 => v = some (.int q.1) ∧ I1 = q.2.1 ∧ J1 = q.2.2) := by
  intro q hq
  unfold f63_67_26 at hq
  refine pq_s hB 11 (pc' := 15) (L' := [(3, .int (I 30 (a0).toNatClampNeg)), (0, .ref 67), (1, .ref 26), (2, .int a0)]) (st' := [.int ((I 26 2) - 1), .int 0, .int (I 30 (a0).toNatClampNeg)]) (I' := I) (J' := J) (by with_unfolding_all rfl) ?_
  generalize hc1 : f127 I J (I 30 (a0).toNatClampNeg) 0 ((I 26 2) - 1) = q1 at hq
  obtain ⟨v1, _, _⟩ := q1
  dsimp only at hq
  refine pq_1 rfl rfl rfl rfl (f127_pq hB hc1) ?_
  rintro _ I1 J1 ⟨rfl, rfl, rfl⟩
  refine pq_ifn hB rfl (fun h2 => ?_) (fun h2 => ?_)
  · rw [h2, cond_true] at hq
    refine pq_s hB 3 (pc' := 34) (L' := [(3, .int (I 30 (a0).toNatClampNeg)), (0, .ref 67), (1, .ref 26), (2, .int a0)]) (st' := [.int (a0 + 1)]) (I' := I1) (J' := J1) (by with_unfolding_all rfl) ?_
    subst hq
    exact pq_2i (x := (a0 + 1)) rfl ⟨rfl, rfl, rfl⟩
  · rw [h2, cond_false] at hq
    refine pq_s hB 5 (pc' := 28) (L' := [(3, .int (I 30 (a0).toNatClampNeg)), (0, .ref 67), (1, .ref 26), (2, .int a0)]) (st' := [.int 5, .int (I1 27 ((I 30 (a0).toNatClampNeg)).toNatClampNeg)]) (I' := I1) (J' := J1) (by with_unfolding_all rfl) ?_
    refine pq_icn hB rfl (fun h3 => ?_) (fun h3 => ?_)
    · rw [h3, cond_true] at hq
      refine pq_s hB 12 (pc' := 51) (L' := [(3, .int (I 30 (a0).toNatClampNeg)), (0, .ref 67), (1, .ref 26), (2, .int a0)]) (st' := [.int ((tup I1 92 (((I 30 (a0).toNatClampNeg)).toNatClampNeg) ((I1 92 ((I 30 (a0).toNatClampNeg)).toNatClampNeg) - 1)) 92 (((I 30 (a0).toNatClampNeg)).toNatClampNeg))]) (I' := (tup I1 92 (((I 30 (a0).toNatClampNeg)).toNatClampNeg) ((I1 92 ((I 30 (a0).toNatClampNeg)).toNatClampNeg) - 1))) (J' := J1) (by with_unfolding_all rfl) ?_
      refine pq_ifn hB rfl (fun h4 => ?_) (fun h4 => ?_)
      · rw [h4, cond_true] at hq
        refine pq_s hB 3 (pc' := 63) (L' := [(3, .int (I 30 (a0).toNatClampNeg)), (0, .ref 67), (1, .ref 26), (2, .int a0)]) (st' := [.int (a0 + 1)]) (I' := (tup I1 92 (((I 30 (a0).toNatClampNeg)).toNatClampNeg) ((I1 92 ((I 30 (a0).toNatClampNeg)).toNatClampNeg) - 1))) (J' := J1) (by with_unfolding_all rfl) ?_
        subst hq
        exact pq_2i (x := (a0 + 1)) rfl ⟨rfl, rfl, rfl⟩
      · rw [h4, cond_false] at hq
        refine pq_s hB 4 (pc' := 63) (L' := [(3, .int (I 30 (a0).toNatClampNeg)), (0, .ref 67), (1, .ref 26), (2, .int a0)]) (st' := [.int ((I 30 (a0).toNatClampNeg) + 1)]) (I' := (tup I1 92 (((I 30 (a0).toNatClampNeg)).toNatClampNeg) ((I1 92 ((I 30 (a0).toNatClampNeg)).toNatClampNeg) - 1))) (J' := J1) (by with_unfolding_all rfl) ?_
        subst hq
        exact pq_2i (x := ((I 30 (a0).toNatClampNeg) + 1)) rfl ⟨rfl, rfl, rfl⟩
    · rw [h3, cond_false] at hq
      refine pq_s hB 3 (pc' := 34) (L' := [(3, .int (I 30 (a0).toNatClampNeg)), (0, .ref 67), (1, .ref 26), (2, .int a0)]) (st' := [.int (a0 + 1)]) (I' := I1) (J' := J1) (by with_unfolding_all rfl) ?_
      subst hq
      exact pq_2i (x := (a0 + 1)) rfl ⟨rfl, rfl, rfl⟩
-- LP$Runner.run, the loop at 46, to [133, 102]
def f62_67_10_l46 (N : Nat) : Nat → tI → tJ → Int32 → Int32 → Option (Nat × Int32 × Int32 × tI × tJ)
  | 0, _, _, _, _ => none
  | k + 1, I, J, x4, x5 =>
    bif xcmp .ge x5 1000000 then some (0, x4, x5, I, J) else (match f127 I J x4 0 ((I 26 2) - 1) with | (v2, I2, J2) => bif xcmp .eq v2 0 then some (0, x4, x5, I2, J2) else bif xcmp .ne (I2 27 (x4).toNatClampNeg) 11 then (bif xcmp .lt (I2 67 0) 300 then (match f64_67_10 N (tup I2 67 0 ((I2 67 0) + 1)) J2 x4 with | none => none | some (v6, I6, J6) => f62_67_10_l46 N k I6 J6 v6 (x5 + 1)) else some (1, x4, x5, I2, J2)) else (match f63_67_26 I2 J2 x4 with | (v7, I7, J7) => f62_67_10_l46 N k I7 J7 v7 (x5 + 1)))
set_option maxRecDepth 100000 in
theorem f62_67_10_l46_pq {sc : List Int32} {B : xM} {N : Nat} {P : Option Value → tI → tJ → Prop} (hB : kB pT B) : ∀ (k : Nat), k ≤ N → ∀ (b m : Nat), b ≤ k → b ≤ m → ∀ {I : tI} {J : tJ} {x4 : Int32} {x5 : Int32} {Y : Option (Nat × Int32 × Int32 × tI × tJ)}, f62_67_10_l46 N k I J x4 x5 = Y → (∀ {y4 : Int32} {y5 : Int32} {I1 : tI} {J1 : tJ}, Y = some (0, y4, y5, I1, J1) → pq sc B m (xt_62, 6, 0) 133 [(0, .ref 67), (1, .ref 10), (3, .ref 26), (4, .int y4), (5, .int y5)] [] I1 J1 P) → (∀ {y4 : Int32} {y5 : Int32} {I1 : tI} {J1 : tJ}, Y = some (1, y4, y5, I1, J1) → pq sc B m (xt_62, 6, 0) 102 [(0, .ref 67), (1, .ref 10), (3, .ref 26), (4, .int y4), (5, .int y5)] [] I1 J1 P) → pq sc B b (xt_62, 6, 0) 46 [(0, .ref 67), (1, .ref 10), (3, .ref 26), (4, .int x4), (5, .int x5)] [] I J P
  | 0, _, b, _, hb, _, _, _, _, _, _, _, _, _ => by
    have e : b = 0 := by omega
    subst e
    exact pq_zero
  | _ + 1, _, 0, _, _, _, _, _, _, _, _, _, _, _ => pq_zero
  | k + 1, hk, b + 1, m, hb, hm, I, J, x4, x5, Y, hq, hx0, hx1 => by
    unfold f62_67_10_l46 at hq
    have hle : b ≤ N := by omega
    refine pq_s1 hB 1 (pc' := 50) (L' := [(0, .ref 67), (1, .ref 10), (3, .ref 26), (4, .int x4), (5, .int x5)]) (st' := [.int 1000000, .int x5]) (I' := I) (J' := J) (by with_unfolding_all rfl) ?_
    refine pq_icn hB rfl (fun h1 => ?_) (fun h1 => ?_)
    · rw [h1, cond_true] at hq
      exact pq_le (by omega) (hx0 hq.symm)
    · rw [h1, cond_false] at hq
      refine pq_s hB 6 (pc' := 62) (L' := [(0, .ref 67), (1, .ref 10), (3, .ref 26), (4, .int x4), (5, .int x5)]) (st' := [.int ((I 26 2) - 1), .int 0, .int x4]) (I' := I) (J' := J) (by with_unfolding_all rfl) ?_
      generalize hc2 : f127 I J x4 0 ((I 26 2) - 1) = q2 at hq
      obtain ⟨v2, _, _⟩ := q2
      dsimp only at hq
      refine pq_1 rfl rfl rfl rfl (f127_pq hB hc2) ?_
      rintro _ I2 J2 ⟨rfl, rfl, rfl⟩
      refine pq_ifn hB rfl (fun h3 => ?_) (fun h3 => ?_)
      · rw [h3, cond_true] at hq
        exact pq_le (by omega) (hx0 hq.symm)
      · rw [h3, cond_false] at hq
        refine pq_s hB 5 (pc' := 77) (L' := [(0, .ref 67), (1, .ref 10), (3, .ref 26), (4, .int x4), (5, .int x5)]) (st' := [.int 11, .int (I2 27 (x4).toNatClampNeg)]) (I' := I2) (J' := J2) (by with_unfolding_all rfl) ?_
        refine pq_icn hB rfl (fun h4 => ?_) (fun h4 => ?_)
        · rw [h4, cond_true] at hq
          refine pq_s hB 3 (pc' := 99) (L' := [(0, .ref 67), (1, .ref 10), (3, .ref 26), (4, .int x4), (5, .int x5)]) (st' := [.int 300, .int (I2 67 0)]) (I' := I2) (J' := J2) (by with_unfolding_all rfl) ?_
          refine pq_icn hB rfl (fun h5 => ?_) (fun h5 => ?_)
          · rw [h5, cond_true] at hq
            refine pq_s hB 9 (pc' := 122) (L' := [(0, .ref 67), (1, .ref 10), (3, .ref 26), (4, .int x4), (5, .int x5)]) (st' := [.int x4, .ref 10, .ref 67]) (I' := (tup I2 67 0 ((I2 67 0) + 1))) (J' := J2) (by with_unfolding_all rfl) ?_
            refine pq_1 rfl rfl rfl rfl (pq_le hle (f64_67_10_pq hB rfl)) ?_
            rintro _ I6 J6 ⟨v6, rfl, hc6⟩
            rw [hc6] at hq
            dsimp only at hq
            refine pq_s hB 3 (pc' := 46) (L' := [(5, .int (x5 + 1)), (4, .int v6), (0, .ref 67), (1, .ref 10), (3, .ref 26)]) (st' := []) (I' := I6) (J' := J6) (by with_unfolding_all rfl) ?_
            refine pq_perm (L := [(0, .ref 67), (1, .ref 10), (3, .ref 26), (4, .int v6), (5, .int (x5 + 1))]) (leqn_of ⟨rfl, rfl, rfl, rfl, rfl, trivial⟩ ⟨rfl, rfl, rfl, rfl, rfl, trivial⟩ ⟨rfl, rfl, rfl, rfl, rfl, trivial⟩) ?_
            exact f62_67_10_l46_pq hB k (by omega) b m (by omega) (by omega) hq hx0 hx1
          · rw [h5, cond_false] at hq
            exact pq_le (by omega) (hx1 hq.symm)
        · rw [h4, cond_false] at hq
          refine pq_s hB 3 (pc' := 84) (L' := [(0, .ref 67), (1, .ref 10), (3, .ref 26), (4, .int x4), (5, .int x5)]) (st' := [.int x4, .ref 26, .ref 67]) (I' := I2) (J' := J2) (by with_unfolding_all rfl) ?_
          generalize hc7 : f63_67_26 I2 J2 x4 = q7 at hq
          obtain ⟨v7, _, _⟩ := q7
          dsimp only at hq
          refine pq_1 rfl rfl rfl rfl (f63_67_26_pq hB hc7) ?_
          rintro _ I7 J7 ⟨rfl, rfl, rfl⟩
          refine pq_s hB 4 (pc' := 46) (L' := [(5, .int (x5 + 1)), (4, .int v7), (0, .ref 67), (1, .ref 10), (3, .ref 26)]) (st' := []) (I' := I7) (J' := J7) (by with_unfolding_all rfl) ?_
          refine pq_perm (L := [(0, .ref 67), (1, .ref 10), (3, .ref 26), (4, .int v7), (5, .int (x5 + 1))]) (leqn_of ⟨rfl, rfl, rfl, rfl, rfl, trivial⟩ ⟨rfl, rfl, rfl, rfl, rfl, trivial⟩ ⟨rfl, rfl, rfl, rfl, rfl, trivial⟩) ?_
          exact f62_67_10_l46_pq hB k (by omega) b m (by omega) (by omega) hq hx0 hx1
-- LP$Runner.run
def f62_67_10 (N : Nat) (I : tI) (J : tJ) (a0 : Int32) : Option (Unit × tI × tJ) :=
  (match f62_67_10_l46 N N (tup (tup (tup (tup (tup (tup (tup I 67 0 0) 67 1 0) 67 2 0) 67 3 0) 67 4 0) 67 5 0) 67 7 a0) J 0 0 with | none => none | some (k1, y1_4, y1_5, I1, J1) => bif Nat.beq k1 0 then (some ((), I1, J1)) else some ((), (tup I1 67 5 1), J1))
set_option maxRecDepth 100000 in
theorem f62_67_10_pq {sc : List Int32} {B : xM} {N : Nat} {I : tI} {J : tJ} {a0 : Int32} (hB : kB pT B) : ∀ {X : Option (Unit × tI × tJ)}, f62_67_10 N I J a0 = X → pq sc B N (xt_62, 6, 0) 0 [(0, .ref 67), (1, .ref 10), (2, .int a0)] [] I J (fun v I1 J1 => v = none ∧ X = some ((), I1, J1)) := by
  intro X hq
  unfold f62_67_10 at hq
  have hle : N ≤ N := Nat.le_refl N
  refine pq_s hB 28 (pc' := 46) (L' := [(5, .int 0), (4, .int 0), (3, .ref 26), (0, .ref 67), (1, .ref 10), (2, .int a0)]) (st' := []) (I' := (tup (tup (tup (tup (tup (tup (tup I 67 0 0) 67 1 0) 67 2 0) 67 3 0) 67 4 0) 67 5 0) 67 7 a0)) (J' := J) (by with_unfolding_all rfl) ?_
  refine pq_perm (L := [(0, .ref 67), (1, .ref 10), (3, .ref 26), (4, .int 0), (5, .int 0)]) (leqn_of ⟨rfl, rfl, rfl, rfl, rfl, trivial⟩ ⟨rfl, rfl, rfl, rfl, rfl, trivial⟩ ⟨rfl, rfl, rfl, rfl, rfl, rfl, trivial⟩) ?_
  refine f62_67_10_l46_pq hB N (Nat.le_refl N) N N hle (Nat.le_refl N) rfl ?_ ?_
  ·
    intro y1_4 y1_5 I1 J1 hc1
    rw [hc1] at hq
    dsimp only at hq
    rw [show Nat.beq 0 0 = true from rfl, cond_true] at hq
    subst hq
    exact pq_2 (v := none) rfl rfl (by with_unfolding_all rfl) ⟨rfl, rfl⟩
  ·
    intro y1_4 y1_5 I1 J1 hc1
    rw [hc1] at hq
    dsimp only at hq
    rw [show Nat.beq 1 0 = false from rfl, cond_false] at hq
    refine pq_s hB 3 (pc' := 107) (L' := [(0, .ref 67), (1, .ref 10), (3, .ref 26), (4, .int y1_4), (5, .int y1_5)]) (st' := []) (I' := (tup I1 67 5 1)) (J' := J1) (by with_unfolding_all rfl) ?_
    subst hq
    exact pq_2 (v := none) rfl rfl (by with_unfolding_all rfl) ⟨rfl, rfl⟩
-- LP.live
def f194_0 (N : Nat) (I : tI) (J : tJ) (a0 : Int32) : Option (Int32 × tI × tJ) :=
  (match f127 I J a0 0 9999 with | (v1, I1, J1) => bif xcmp .ne v1 0 then (bif xcmp .ne (I1 26 0) 0 then (match f62_67_10 N I1 J1 a0 with | none => none | some (_, I4, J4) => bif xcmp .eq (I4 67 5) 0 then (match f121_0 (tup (tup (tup (tup (tup (tup I4 93 0 (I4 67 1)) 93 1 (I4 67 2)) 93 2 (I4 67 3)) 93 3 (I4 67 4)) 93 4 0) 0 17 1) J4 (I4 67 0) with | (v6, I6, J6) => some (v6, I6, J6)) else (match f121_0 (tup (tup (tup (tup (tup (tup I4 93 0 (I4 67 1)) 93 1 (I4 67 2)) 93 2 (I4 67 3)) 93 3 (I4 67 4)) 93 4 1) 0 17 1) J4 (I4 67 0) with | (v7, I7, J7) => some (v7, I7, J7))) else (match f122_0 I1 J1 6 with | (v8, I8, J8) => some (v8, I8, J8))) else (match f122_0 I1 J1 1 with | (v9, I9, J9) => some (v9, I9, J9)))
set_option maxRecDepth 100000 in
theorem f194_0_pq {sc : List Int32} {B : xM} {N : Nat} {I : tI} {J : tJ} {a0 : Int32} (hB : kB pT B) : ∀ {X : Option (Int32 × tI × tJ)}, f194_0 N I J a0 = X → pq sc B N (xt_194, 2, 1) 0 [(0, .ref 0), (1, .int a0)] [] I J (fun v I1 J1 => ∃ a, v = some (.int a) ∧ X = some (a, I1, J1)) := by
  intro X hq
  unfold f194_0 at hq
  have hle : N ≤ N := Nat.le_refl N
  refine pq_s hB 3 (pc' := 5) (L' := [(0, .ref 0), (1, .int a0)]) (st' := [.int 9999, .int 0, .int a0]) (I' := I) (J' := J) (by with_unfolding_all rfl) ?_
  generalize hc1 : f127 I J a0 0 9999 = q1 at hq
  obtain ⟨v1, _, _⟩ := q1
  dsimp only at hq
  refine pq_1 rfl rfl rfl rfl (f127_pq hB hc1) ?_
  rintro _ I1 J1 ⟨rfl, rfl, rfl⟩
  refine pq_ifn hB rfl (fun h2 => ?_) (fun h2 => ?_)
  · rw [h2, cond_true] at hq
    refine pq_s hB 4 (pc' := 27) (L' := [(0, .ref 0), (1, .int a0)]) (st' := [.int (I1 26 0)]) (I' := I1) (J' := J1) (by with_unfolding_all rfl) ?_
    refine pq_ifn hB rfl (fun h3 => ?_) (fun h3 => ?_)
    · rw [h3, cond_true] at hq
      refine pq_s hB 5 (pc' := 46) (L' := [(0, .ref 0), (1, .int a0)]) (st' := [.int a0, .ref 10, .ref 67]) (I' := I1) (J' := J1) (by with_unfolding_all rfl) ?_
      refine pq_1 rfl rfl rfl rfl (pq_le hle (f62_67_10_pq hB rfl)) ?_
      rintro _ I4 J4 ⟨rfl, hc4⟩
      rw [hc4] at hq
      dsimp only at hq
      refine pq_s hB 34 (pc' := 113) (L' := [(0, .ref 0), (1, .int a0)]) (st' := [.int (I4 67 5), .int 4, .ref 93]) (I' := (tup (tup (tup (tup I4 93 0 (I4 67 1)) 93 1 (I4 67 2)) 93 2 (I4 67 3)) 93 3 (I4 67 4))) (J' := J4) (by with_unfolding_all rfl) ?_
      refine pq_ifn hB rfl (fun h5 => ?_) (fun h5 => ?_)
      · rw [h5, cond_true] at hq
        refine pq_s hB 9 (pc' := 135) (L' := [(0, .ref 0), (1, .int a0)]) (st' := [.int (I4 67 0), .ref 0]) (I' := (tup (tup (tup (tup (tup (tup I4 93 0 (I4 67 1)) 93 1 (I4 67 2)) 93 2 (I4 67 3)) 93 3 (I4 67 4)) 93 4 0) 0 17 1)) (J' := J4) (by with_unfolding_all rfl) ?_
        generalize hc6 : f121_0 (tup (tup (tup (tup (tup (tup I4 93 0 (I4 67 1)) 93 1 (I4 67 2)) 93 2 (I4 67 3)) 93 3 (I4 67 4)) 93 4 0) 0 17 1) J4 (I4 67 0) = q6 at hq
        obtain ⟨v6, _, _⟩ := q6
        dsimp only at hq
        refine pq_1 rfl rfl rfl rfl (f121_0_pq hB hc6) ?_
        rintro _ I6 J6 ⟨rfl, rfl, rfl⟩
        subst hq
        exact pq_2i (x := v6) rfl ⟨_, rfl, rfl⟩
      · rw [h5, cond_false] at hq
        refine pq_s hB 10 (pc' := 135) (L' := [(0, .ref 0), (1, .int a0)]) (st' := [.int (I4 67 0), .ref 0]) (I' := (tup (tup (tup (tup (tup (tup I4 93 0 (I4 67 1)) 93 1 (I4 67 2)) 93 2 (I4 67 3)) 93 3 (I4 67 4)) 93 4 1) 0 17 1)) (J' := J4) (by with_unfolding_all rfl) ?_
        generalize hc7 : f121_0 (tup (tup (tup (tup (tup (tup I4 93 0 (I4 67 1)) 93 1 (I4 67 2)) 93 2 (I4 67 3)) 93 3 (I4 67 4)) 93 4 1) 0 17 1) J4 (I4 67 0) = q7 at hq
        obtain ⟨v7, _, _⟩ := q7
        dsimp only at hq
        refine pq_1 rfl rfl rfl rfl (f121_0_pq hB hc7) ?_
        rintro _ I7 J7 ⟨rfl, rfl, rfl⟩
        subst hq
        exact pq_2i (x := v7) rfl ⟨_, rfl, rfl⟩
    · rw [h3, cond_false] at hq
      refine pq_s hB 2 (pc' := 33) (L' := [(0, .ref 0), (1, .int a0)]) (st' := [.int 6, .ref 0]) (I' := I1) (J' := J1) (by with_unfolding_all rfl) ?_
      generalize hc8 : f122_0 I1 J1 6 = q8 at hq
      obtain ⟨v8, _, _⟩ := q8
      dsimp only at hq
      refine pq_1 rfl rfl rfl rfl (f122_0_pq hB hc8) ?_
      rintro _ I8 J8 ⟨rfl, rfl, rfl⟩
      subst hq
      exact pq_2i (x := v8) rfl ⟨_, rfl, rfl⟩
  · rw [h2, cond_false] at hq
    refine pq_s hB 2 (pc' := 13) (L' := [(0, .ref 0), (1, .int a0)]) (st' := [.int 1, .ref 0]) (I' := I1) (J' := J1) (by with_unfolding_all rfl) ?_
    generalize hc9 : f122_0 I1 J1 1 = q9 at hq
    obtain ⟨v9, _, _⟩ := q9
    dsimp only at hq
    refine pq_1 rfl rfl rfl rfl (f122_0_pq hB hc9) ?_
    rintro _ I9 J9 ⟨rfl, rfl, rfl⟩
    subst hq
    exact pq_2i (x := v9) rfl ⟨_, rfl, rfl⟩
-- LPModel.lives, the loop at 12, to [30]
def f345_185_l12 (N : Nat) : Nat → tI → tJ → Int32 → Option (Int32 × tI × tJ)
  | 0, _, _, _ => none
  | k + 1, I, J, x2 =>
    bif xcmp .ge x2 5 then some (x2, I, J) else f345_185_l12 N k (tup I 201 ((x2).toNatClampNeg) 0) J (x2 + 1)
set_option maxRecDepth 100000 in
theorem f345_185_l12_pq {sc : List Int32} {B : xM} {N : Nat} {P : Option Value → tI → tJ → Prop} (hB : kB pT B) : ∀ (k : Nat), k ≤ N → ∀ (b m : Nat), b ≤ k → b ≤ m → ∀ {I : tI} {J : tJ} {x2 : Int32} {Y : Option (Int32 × tI × tJ)}, f345_185_l12 N k I J x2 = Y → (∀ {y2 : Int32} {I1 : tI} {J1 : tJ}, Y = some (y2, I1, J1) → pq sc B m (xt_345, 4, 0) 30 [(0, .ref 185), (2, .int y2)] [] I1 J1 P) → pq sc B b (xt_345, 4, 0) 12 [(0, .ref 185), (2, .int x2)] [] I J P
  | 0, _, b, _, hb, _, _, _, _, _, _, _ => by
    have e : b = 0 := by omega
    subst e
    exact pq_zero
  | _ + 1, _, 0, _, _, _, _, _, _, _, _, _ => pq_zero
  | k + 1, hk, b + 1, m, hb, hm, I, J, x2, Y, hq, hx0 => by
    unfold f345_185_l12 at hq
    have hle : b ≤ N := by omega
    refine pq_s1 hB 1 (pc' := 14) (L' := [(0, .ref 185), (2, .int x2)]) (st' := [.int 5, .int x2]) (I' := I) (J' := J) (by with_unfolding_all rfl) ?_
    refine pq_icn hB rfl (fun h1 => ?_) (fun h1 => ?_)
    · rw [h1, cond_true] at hq
      exact pq_le (by omega) (hx0 hq.symm)
    · rw [h1, cond_false] at hq
      refine pq_s hB 7 (pc' := 12) (L' := [(2, .int (x2 + 1)), (0, .ref 185)]) (st' := []) (I' := (tup I 201 ((x2).toNatClampNeg) 0)) (J' := J) (by with_unfolding_all rfl) ?_
      refine pq_perm (L := [(0, .ref 185), (2, .int (x2 + 1))]) (leqn_of ⟨rfl, rfl, trivial⟩ ⟨rfl, rfl, trivial⟩ ⟨rfl, rfl, trivial⟩) ?_
      exact f345_185_l12_pq hB k (by omega) b m (by omega) (by omega) hq hx0
-- LPModel.buysBy, the loop at 39, to [57]
def f339_185_l39 (N : Nat) : Nat → tI → tJ → Int32 → Int32 → Int32 → Int32 → Option (Int32 × Int32 × Int32 × Int32 × tI × tJ)
  | 0, _, _, _, _, _, _ => none
  | k + 1, I, J, x1, x2, x3, x4 =>
    bif xcmp .ge x4 x2 then some (x1, x2, x3, x4, I, J) else (match f286_185 N I J x1 with | none => none | some (v5, I5, J5) => f339_185_l39 N k I5 J5 x1 x2 x3 (x4 + 1))
set_option maxRecDepth 100000 in
theorem f339_185_l39_pq {sc : List Int32} {B : xM} {N : Nat} {P : Option Value → tI → tJ → Prop} (hB : kB pT B) : ∀ (k : Nat), k ≤ N → ∀ (b m : Nat), b ≤ k → b ≤ m → ∀ {I : tI} {J : tJ} {x1 : Int32} {x2 : Int32} {x3 : Int32} {x4 : Int32} {Y : Option (Int32 × Int32 × Int32 × Int32 × tI × tJ)}, f339_185_l39 N k I J x1 x2 x3 x4 = Y → (∀ {y1 : Int32} {y2 : Int32} {y3 : Int32} {y4 : Int32} {I1 : tI} {J1 : tJ}, Y = some (y1, y2, y3, y4, I1, J1) → pq sc B m (xt_339, 5, 3) 57 [(0, .ref 185), (1, .int y1), (2, .int y2), (3, .int y3), (4, .int y4)] [] I1 J1 P) → pq sc B b (xt_339, 5, 3) 39 [(0, .ref 185), (1, .int x1), (2, .int x2), (3, .int x3), (4, .int x4)] [] I J P
  | 0, _, b, _, hb, _, _, _, _, _, _, _, _, _, _ => by
    have e : b = 0 := by omega
    subst e
    exact pq_zero
  | _ + 1, _, 0, _, _, _, _, _, _, _, _, _, _, _, _ => pq_zero
  | k + 1, hk, b + 1, m, hb, hm, I, J, x1, x2, x3, x4, Y, hq, hx0 => by
    unfold f339_185_l39 at hq
    have hle : b ≤ N := by omega
    refine pq_s1 hB 1 (pc' := 42) (L' := [(0, .ref 185), (1, .int x1), (2, .int x2), (3, .int x3), (4, .int x4)]) (st' := [.int x2, .int x4]) (I' := I) (J' := J) (by with_unfolding_all rfl) ?_
    refine pq_icn hB rfl (fun h4 => ?_) (fun h4 => ?_)
    · rw [h4, cond_true] at hq
      exact pq_le (by omega) (hx0 hq.symm)
    · rw [h4, cond_false] at hq
      refine pq_s hB 2 (pc' := 47) (L' := [(0, .ref 185), (1, .int x1), (2, .int x2), (3, .int x3), (4, .int x4)]) (st' := [.int x1, .ref 185]) (I' := I) (J' := J) (by with_unfolding_all rfl) ?_
      refine pq_1 rfl rfl rfl rfl (pq_le hle (f286_185_pq hB rfl)) ?_
      rintro _ I5 J5 ⟨v5, rfl, hc5⟩
      rw [hc5] at hq
      dsimp only at hq
      refine pq_s hB 3 (pc' := 39) (L' := [(4, .int (x4 + 1)), (0, .ref 185), (1, .int x1), (2, .int x2), (3, .int x3)]) (st' := []) (I' := I5) (J' := J5) (by with_unfolding_all rfl) ?_
      refine pq_perm (L := [(0, .ref 185), (1, .int x1), (2, .int x2), (3, .int x3), (4, .int (x4 + 1))]) (leqn_of ⟨rfl, rfl, rfl, rfl, rfl, trivial⟩ ⟨rfl, rfl, rfl, rfl, rfl, trivial⟩ ⟨rfl, rfl, rfl, rfl, rfl, trivial⟩) ?_
      exact f339_185_l39_pq hB k (by omega) b m (by omega) (by omega) hq hx0
-- LPModel.buysBy
def f339_185 (N : Nat) (I : tI) (J : tJ) (a0 : Int32) (a1 : Int32) : Option (Int32 × tI × tJ) :=
  (match f300_185 N I J a1 with | none => none | some (v1, I1, J1) => bif xcmp .gt ((I1 186 5) + a1) 999 then some (0, I1, J1) else bif xcmp .ge (I1 186 ((128 + a0)).toNatClampNeg) v1 then (match f339_185_l39 N N I1 J1 a0 a1 v1 0 with | none => none | some (y4_1, y4_2, y4_3, y4_4, I4, J4) => some (1, (tup (tup (tup I4 201 1 ((I4 201 1) + y4_2)) 201 2 ((I4 201 2) + y4_2)) 201 3 ((I4 201 3) + y4_3)), J4)) else some (0, I1, J1))
set_option maxRecDepth 100000 in
theorem f339_185_pq {sc : List Int32} {B : xM} {N : Nat} {I : tI} {J : tJ} {a0 : Int32} {a1 : Int32} (hB : kB pT B) : ∀ {X : Option (Int32 × tI × tJ)}, f339_185 N I J a0 a1 = X → pq sc B N (xt_339, 5, 3) 0 [(0, .ref 185), (1, .int a0), (2, .int a1)] [] I J (fun v I1 J1 => ∃ a, v = some (.int a) ∧ X = some (a, I1, J1)) := by
  intro X hq
  unfold f339_185 at hq
  have hle : N ≤ N := Nat.le_refl N
  refine pq_s hB 2 (pc' := 2) (L' := [(0, .ref 185), (1, .int a0), (2, .int a1)]) (st' := [.int a1, .ref 185]) (I' := I) (J' := J) (by with_unfolding_all rfl) ?_
  refine pq_1 rfl rfl rfl rfl (pq_le hle (f300_185_pq hB rfl)) ?_
  rintro _ I1 J1 ⟨v1, rfl, hc1⟩
  rw [hc1] at hq
  dsimp only at hq
  refine pq_s hB 8 (pc' := 17) (L' := [(3, .int v1), (0, .ref 185), (1, .int a0), (2, .int a1)]) (st' := [.int 999, .int ((I1 186 5) + a1)]) (I' := I1) (J' := J1) (by with_unfolding_all rfl) ?_
  refine pq_icn hB rfl (fun h2 => ?_) (fun h2 => ?_)
  · rw [h2, cond_true] at hq
    refine pq_s hB 1 (pc' := 35) (L' := [(3, .int v1), (0, .ref 185), (1, .int a0), (2, .int a1)]) (st' := [.int 0]) (I' := I1) (J' := J1) (by with_unfolding_all rfl) ?_
    subst hq
    exact pq_2i (x := 0) rfl ⟨_, rfl, rfl⟩
  · rw [h2, cond_false] at hq
    refine pq_s hB 7 (pc' := 31) (L' := [(3, .int v1), (0, .ref 185), (1, .int a0), (2, .int a1)]) (st' := [.int v1, .int (I1 186 ((128 + a0)).toNatClampNeg)]) (I' := I1) (J' := J1) (by with_unfolding_all rfl) ?_
    refine pq_icn hB rfl (fun h3 => ?_) (fun h3 => ?_)
    · rw [h3, cond_true] at hq
      refine pq_s hB 2 (pc' := 39) (L' := [(4, .int 0), (3, .int v1), (0, .ref 185), (1, .int a0), (2, .int a1)]) (st' := []) (I' := I1) (J' := J1) (by with_unfolding_all rfl) ?_
      refine pq_perm (L := [(0, .ref 185), (1, .int a0), (2, .int a1), (3, .int v1), (4, .int 0)]) (leqn_of ⟨rfl, rfl, rfl, rfl, rfl, trivial⟩ ⟨rfl, rfl, rfl, rfl, rfl, trivial⟩ ⟨rfl, rfl, rfl, rfl, rfl, trivial⟩) ?_
      refine f339_185_l39_pq hB N (Nat.le_refl N) N N hle (Nat.le_refl N) rfl ?_
      intro y4_1 y4_2 y4_3 y4_4 I4 J4 hc4
      rw [hc4] at hq
      dsimp only at hq
      refine pq_s hB 25 (pc' := 88) (L' := [(0, .ref 185), (1, .int y4_1), (2, .int y4_2), (3, .int y4_3), (4, .int y4_4)]) (st' := [.int 1]) (I' := (tup (tup (tup I4 201 1 ((I4 201 1) + y4_2)) 201 2 ((I4 201 2) + y4_2)) 201 3 ((I4 201 3) + y4_3))) (J' := J4) (by with_unfolding_all rfl) ?_
      subst hq
      exact pq_2i (x := 1) rfl ⟨_, rfl, rfl⟩
    · rw [h3, cond_false] at hq
      refine pq_s hB 1 (pc' := 35) (L' := [(3, .int v1), (0, .ref 185), (1, .int a0), (2, .int a1)]) (st' := [.int 0]) (I' := I1) (J' := J1) (by with_unfolding_all rfl) ?_
      subst hq
      exact pq_2i (x := 0) rfl ⟨_, rfl, rfl⟩
-- LPModel.skipsBy
def f340_185 (N : Nat) (I : tI) (J : tJ) (a0 : Int32) : Option (Int32 × tI × tJ) :=
  bif xcmp .le ((I 186 5) + a0) 999 then (match f285_185 N I J a0 with | none => none | some (_, I2, J2) => some (1, (tup I2 201 1 ((I2 201 1) + a0)), J2)) else some (0, I, J)
set_option maxRecDepth 100000 in
theorem f340_185_pq {sc : List Int32} {B : xM} {N : Nat} {I : tI} {J : tJ} {a0 : Int32} (hB : kB pT B) : ∀ {X : Option (Int32 × tI × tJ)}, f340_185 N I J a0 = X → pq sc B N (xt_340, 2, 3) 0 [(0, .ref 185), (1, .int a0)] [] I J (fun v I1 J1 => ∃ a, v = some (.int a) ∧ X = some (a, I1, J1)) := by
  intro X hq
  unfold f340_185 at hq
  have hle : N ≤ N := Nat.le_refl N
  refine pq_s hB 7 (pc' := 11) (L' := [(0, .ref 185), (1, .int a0)]) (st' := [.int 999, .int ((I 186 5) + a0)]) (I' := I) (J' := J) (by with_unfolding_all rfl) ?_
  refine pq_icn hB rfl (fun h1 => ?_) (fun h1 => ?_)
  · rw [h1, cond_true] at hq
    refine pq_s hB 2 (pc' := 18) (L' := [(0, .ref 185), (1, .int a0)]) (st' := [.int a0, .ref 185]) (I' := I) (J' := J) (by with_unfolding_all rfl) ?_
    refine pq_1 rfl rfl rfl rfl (pq_le hle (f285_185_pq hB rfl)) ?_
    rintro _ I2 J2 ⟨rfl, hc2⟩
    rw [hc2] at hq
    dsimp only at hq
    refine pq_s hB 9 (pc' := 32) (L' := [(0, .ref 185), (1, .int a0)]) (st' := [.int 1]) (I' := (tup I2 201 1 ((I2 201 1) + a0))) (J' := J2) (by with_unfolding_all rfl) ?_
    subst hq
    exact pq_2i (x := 1) rfl ⟨_, rfl, rfl⟩
  · rw [h1, cond_false] at hq
    refine pq_s hB 1 (pc' := 15) (L' := [(0, .ref 185), (1, .int a0)]) (st' := [.int 0]) (I' := I) (J' := J) (by with_unfolding_all rfl) ?_
    subst hq
    exact pq_2i (x := 0) rfl ⟨_, rfl, rfl⟩
-- LPModel.givesBy, the loop at 3, to [48, 29]
def f341_185_l3 (N : Nat) : Nat → tI → tJ → Int32 → Int32 → Int32 → Option (Nat × Int32 × Int32 × Int32 × tI × tJ)
  | 0, _, _, _, _, _ => none
  | k + 1, I, J, x1, x2, x3 =>
    bif xcmp .lt x3 0 then some (0, x1, x2, x3, I, J) else bif xcmp .eq x1 x2 then some (0, x1, x2, x3, I, J) else bif xcmp .eq (I 186 ((132 + x3)).toNatClampNeg) x1 then some (1, x1, x2, x3, I, J) else f341_185_l3 N k I J x1 x2 (x3 + (-1))
set_option maxRecDepth 100000 in
theorem f341_185_l3_pq {sc : List Int32} {B : xM} {N : Nat} {P : Option Value → tI → tJ → Prop} (hB : kB pT B) : ∀ (k : Nat), k ≤ N → ∀ (b m : Nat), b ≤ k → b ≤ m → ∀ {I : tI} {J : tJ} {x1 : Int32} {x2 : Int32} {x3 : Int32} {Y : Option (Nat × Int32 × Int32 × Int32 × tI × tJ)}, f341_185_l3 N k I J x1 x2 x3 = Y → (∀ {y1 : Int32} {y2 : Int32} {y3 : Int32} {I1 : tI} {J1 : tJ}, Y = some (0, y1, y2, y3, I1, J1) → pq sc B m (xt_341, 4, 3) 48 [(0, .ref 185), (1, .int y1), (2, .int y2), (3, .int y3)] [] I1 J1 P) → (∀ {y1 : Int32} {y2 : Int32} {y3 : Int32} {I1 : tI} {J1 : tJ}, Y = some (1, y1, y2, y3, I1, J1) → pq sc B m (xt_341, 4, 3) 29 [(0, .ref 185), (1, .int y1), (2, .int y2), (3, .int y3)] [] I1 J1 P) → pq sc B b (xt_341, 4, 3) 3 [(0, .ref 185), (1, .int x1), (2, .int x2), (3, .int x3)] [] I J P
  | 0, _, b, _, hb, _, _, _, _, _, _, _, _, _, _ => by
    have e : b = 0 := by omega
    subst e
    exact pq_zero
  | _ + 1, _, 0, _, _, _, _, _, _, _, _, _, _, _, _ => pq_zero
  | k + 1, hk, b + 1, m, hb, hm, I, J, x1, x2, x3, Y, hq, hx0, hx1 => by
    unfold f341_185_l3 at hq
    have hle : b ≤ N := by omega
    refine pq_s1 hB 0 (pc' := 4) (L' := [(0, .ref 185), (1, .int x1), (2, .int x2), (3, .int x3)]) (st' := [.int x3]) (I' := I) (J' := J) (by with_unfolding_all rfl) ?_
    refine pq_ifn hB rfl (fun h1 => ?_) (fun h1 => ?_)
    · rw [h1, cond_true] at hq
      exact pq_le (by omega) (hx0 hq.symm)
    · rw [h1, cond_false] at hq
      refine pq_s hB 2 (pc' := 9) (L' := [(0, .ref 185), (1, .int x1), (2, .int x2), (3, .int x3)]) (st' := [.int x2, .int x1]) (I' := I) (J' := J) (by with_unfolding_all rfl) ?_
      refine pq_icn hB rfl (fun h2 => ?_) (fun h2 => ?_)
      · rw [h2, cond_true] at hq
        exact pq_le (by omega) (hx0 hq.symm)
      · rw [h2, cond_false] at hq
        refine pq_s hB 7 (pc' := 23) (L' := [(0, .ref 185), (1, .int x1), (2, .int x2), (3, .int x3)]) (st' := [.int x1, .int (I 186 ((132 + x3)).toNatClampNeg)]) (I' := I) (J' := J) (by with_unfolding_all rfl) ?_
        refine pq_icn hB rfl (fun h3 => ?_) (fun h3 => ?_)
        · rw [h3, cond_true] at hq
          exact pq_le (by omega) (hx1 hq.symm)
        · rw [h3, cond_false] at hq
          refine pq_s hB 3 (pc' := 3) (L' := [(3, .int (x3 + (-1))), (0, .ref 185), (1, .int x1), (2, .int x2)]) (st' := []) (I' := I) (J' := J) (by with_unfolding_all rfl) ?_
          refine pq_perm (L := [(0, .ref 185), (1, .int x1), (2, .int x2), (3, .int (x3 + (-1)))]) (leqn_of ⟨rfl, rfl, rfl, rfl, trivial⟩ ⟨rfl, rfl, rfl, rfl, trivial⟩ ⟨rfl, rfl, rfl, rfl, trivial⟩) ?_
          exact f341_185_l3_pq hB k (by omega) b m (by omega) (by omega) hq hx0 hx1
-- LPModel.givesBy
def f341_185 (N : Nat) (I : tI) (J : tJ) (a0 : Int32) (a1 : Int32) : Option (Int32 × tI × tJ) :=
  (match f341_185_l3 N N I J a0 a1 119 with | none => none | some (k1, y1_1, y1_2, y1_3, I1, J1) => bif Nat.beq k1 0 then (some (0, I1, J1)) else some (1, (tup I1 186 (((132 + y1_3)).toNatClampNeg) y1_2), J1))
set_option maxRecDepth 100000 in
theorem f341_185_pq {sc : List Int32} {B : xM} {N : Nat} {I : tI} {J : tJ} {a0 : Int32} {a1 : Int32} (hB : kB pT B) : ∀ {X : Option (Int32 × tI × tJ)}, f341_185 N I J a0 a1 = X → pq sc B N (xt_341, 4, 3) 0 [(0, .ref 185), (1, .int a0), (2, .int a1)] [] I J (fun v I1 J1 => ∃ a, v = some (.int a) ∧ X = some (a, I1, J1)) := by
  intro X hq
  unfold f341_185 at hq
  have hle : N ≤ N := Nat.le_refl N
  refine pq_s hB 2 (pc' := 3) (L' := [(3, .int 119), (0, .ref 185), (1, .int a0), (2, .int a1)]) (st' := []) (I' := I) (J' := J) (by with_unfolding_all rfl) ?_
  refine pq_perm (L := [(0, .ref 185), (1, .int a0), (2, .int a1), (3, .int 119)]) (leqn_of ⟨rfl, rfl, rfl, rfl, trivial⟩ ⟨rfl, rfl, rfl, rfl, trivial⟩ ⟨rfl, rfl, rfl, rfl, trivial⟩) ?_
  refine f341_185_l3_pq hB N (Nat.le_refl N) N N hle (Nat.le_refl N) rfl ?_ ?_
  ·
    intro y1_1 y1_2 y1_3 I1 J1 hc1
    rw [hc1] at hq
    dsimp only at hq
    rw [show Nat.beq 0 0 = true from rfl, cond_true] at hq
    refine pq_s hB 1 (pc' := 49) (L' := [(0, .ref 185), (1, .int y1_1), (2, .int y1_2), (3, .int y1_3)]) (st' := [.int 0]) (I' := I1) (J' := J1) (by with_unfolding_all rfl) ?_
    subst hq
    exact pq_2i (x := 0) rfl ⟨_, rfl, rfl⟩
  ·
    intro y1_1 y1_2 y1_3 I1 J1 hc1
    rw [hc1] at hq
    dsimp only at hq
    rw [show Nat.beq 1 0 = false from rfl, cond_false] at hq
    refine pq_s hB 8 (pc' := 41) (L' := [(0, .ref 185), (1, .int y1_1), (2, .int y1_2), (3, .int y1_3)]) (st' := [.int 1]) (I' := (tup I1 186 (((132 + y1_3)).toNatClampNeg) y1_2)) (J' := J1) (by with_unfolding_all rfl) ?_
    subst hq
    exact pq_2i (x := 1) rfl ⟨_, rfl, rfl⟩
-- LPModel.draw
def f338_185 (I : tI) (J : tJ) (a0 : Int32) : Int32 × tI × tJ :=
  ((((((((I 185 30) * 3049) + 11273) - (((I 185 30) * 3049) + 11273) / 65536 * 65536)) / 8) - ((((((I 185 30) * 3049) + 11273) - (((I 185 30) * 3049) + 11273) / 65536 * 65536)) / 8) / a0 * a0), (tup I 185 30 ((((I 185 30) * 3049) + 11273) - (((I 185 30) * 3049) + 11273) / 65536 * 65536)), J)
set_option maxRecDepth 100000 in
theorem f338_185_pq {sc : List Int32} {B : xM} {n : Nat} {I : tI} {J : tJ} {a0 : Int32} (hB : kB pT B) : ∀ {q : Int32 × tI × tJ}, f338_185 I J a0 = q → pq sc B n (xt_338, 2, 1) 0 [(0, .ref 185), (1, .int a0)] [] I J (fun v I1 J1 => v = some (.int q.1) ∧ I1 = q.2.1 ∧ J1 = q.2.2) := by
  intro q hq
  unfold f338_185 at hq
  refine pq_s hB 15 (pc' := 28) (L' := [(0, .ref 185), (1, .int a0)]) (st' := [.int a0, .int ((((((I 185 30) * 3049) + 11273) - (((I 185 30) * 3049) + 11273) / 65536 * 65536)) / 8)]) (I' := (tup I 185 30 ((((I 185 30) * 3049) + 11273) - (((I 185 30) * 3049) + 11273) / 65536 * 65536))) (J' := J) (by with_unfolding_all rfl) ?_
  refine pq_irem hB rfl (fun _ => ?_)
  subst hq
  exact pq_2i (x := (((((((I 185 30) * 3049) + 11273) - (((I 185 30) * 3049) + 11273) / 65536 * 65536)) / 8) - ((((((I 185 30) * 3049) + 11273) - (((I 185 30) * 3049) + 11273) / 65536 * 65536)) / 8) / a0 * a0)) rfl ⟨rfl, rfl, rfl⟩
-- LPModel.does
def f342_185 (N : Nat) (I : tI) (J : tJ) (a0 : Int32) : Option (Int32 × tI × tJ) :=
  bif xcmp .eq (I 186 (a0).toNatClampNeg) 21 then ((match f339_185 N I J (I 186 ((a0 + 1)).toNatClampNeg) (I 186 ((a0 + 2)).toNatClampNeg) with | none => none | some (v2, I2, J2) => some (v2, I2, J2))) else bif xcmp .eq (I 186 (a0).toNatClampNeg) 22 then ((match f340_185 N I J (I 186 ((a0 + 1)).toNatClampNeg) with | none => none | some (v4, I4, J4) => some (v4, I4, J4))) else bif xcmp .eq (I 186 (a0).toNatClampNeg) 23 then ((match f341_185 N I J (I 186 ((a0 + 1)).toNatClampNeg) (I 186 ((a0 + 2)).toNatClampNeg) with | none => none | some (v6, I6, J6) => some (v6, I6, J6))) else bif xcmp .eq (I 186 (a0).toNatClampNeg) 24 then (bif xcmp .le (I 186 4) 0 then some (0, I, J) else (match f338_185 I J (I 186 4) with | (v9, I9, J9) => (match f339_185 N I9 J9 v9 1 with | none => none | some (v10, I10, J10) => bif xcmp .eq v10 0 then some (0, I10, J10) else some (1, I10, J10)))) else some (1, I, J)
set_option maxRecDepth 100000 in
theorem f342_185_pq {sc : List Int32} {B : xM} {N : Nat} {I : tI} {J : tJ} {a0 : Int32} (hB : kB pT B) : ∀ {X : Option (Int32 × tI × tJ)}, f342_185 N I J a0 = X → pq sc B N (xt_342, 3, 3) 0 [(0, .ref 185), (1, .int a0)] [] I J (fun v I1 J1 => ∃ a, v = some (.int a) ∧ X = some (a, I1, J1)) := by
  intro X hq
  unfold f342_185 at hq
  have hle : N ≤ N := Nat.le_refl N
  refine pq_s hB 11 (pc' := 15) (L' := [(2, .int (I 186 ((a0 + 1)).toNatClampNeg)), (0, .ref 185), (1, .int a0)]) (st' := [.int (I 186 (a0).toNatClampNeg)]) (I' := I) (J' := J) (by with_unfolding_all rfl) ?_
  cases h1 : xcmp .eq (I 186 (a0).toNatClampNeg) 21 with
  | true =>
    rw [h1, cond_true] at hq
    refine pq_tsw_k hB (c := 21) (t := 44) rfl h1 rfl ?_
    refine pq_s hB 8 (pc' := 54) (L' := [(2, .int (I 186 ((a0 + 1)).toNatClampNeg)), (0, .ref 185), (1, .int a0)]) (st' := [.int (I 186 ((a0 + 2)).toNatClampNeg), .int (I 186 ((a0 + 1)).toNatClampNeg), .ref 185]) (I' := I) (J' := J) (by with_unfolding_all rfl) ?_
    refine pq_1 rfl rfl rfl rfl (pq_le hle (f339_185_pq hB rfl)) ?_
    rintro _ I2 J2 ⟨v2, rfl, hc2⟩
    rw [hc2] at hq
    dsimp only at hq
    subst hq
    exact pq_2i (x := v2) rfl ⟨_, rfl, rfl⟩
  | false =>
    rw [h1, cond_false] at hq
    cases h3 : xcmp .eq (I 186 (a0).toNatClampNeg) 22 with
    | true =>
      rw [h3, cond_true] at hq
      refine pq_tsw_k hB (c := 22) (t := 58) rfl h3 rfl ?_
      refine pq_s hB 2 (pc' := 60) (L' := [(2, .int (I 186 ((a0 + 1)).toNatClampNeg)), (0, .ref 185), (1, .int a0)]) (st' := [.int (I 186 ((a0 + 1)).toNatClampNeg), .ref 185]) (I' := I) (J' := J) (by with_unfolding_all rfl) ?_
      refine pq_1 rfl rfl rfl rfl (pq_le hle (f340_185_pq hB rfl)) ?_
      rintro _ I4 J4 ⟨v4, rfl, hc4⟩
      rw [hc4] at hq
      dsimp only at hq
      subst hq
      exact pq_2i (x := v4) rfl ⟨_, rfl, rfl⟩
    | false =>
      rw [h3, cond_false] at hq
      cases h5 : xcmp .eq (I 186 (a0).toNatClampNeg) 23 with
      | true =>
        rw [h5, cond_true] at hq
        refine pq_tsw_k hB (c := 23) (t := 64) rfl h5 rfl ?_
        refine pq_s hB 8 (pc' := 74) (L' := [(2, .int (I 186 ((a0 + 1)).toNatClampNeg)), (0, .ref 185), (1, .int a0)]) (st' := [.int (I 186 ((a0 + 2)).toNatClampNeg), .int (I 186 ((a0 + 1)).toNatClampNeg), .ref 185]) (I' := I) (J' := J) (by with_unfolding_all rfl) ?_
        refine pq_1 rfl rfl rfl rfl (pq_le hle (f341_185_pq hB rfl)) ?_
        rintro _ I6 J6 ⟨v6, rfl, hc6⟩
        rw [hc6] at hq
        dsimp only at hq
        subst hq
        exact pq_2i (x := v6) rfl ⟨_, rfl, rfl⟩
      | false =>
        rw [h5, cond_false] at hq
        cases h7 : xcmp .eq (I 186 (a0).toNatClampNeg) 24 with
        | true =>
          rw [h7, cond_true] at hq
          refine pq_tsw_k hB (c := 24) (t := 78) rfl h7 rfl ?_
          refine pq_s hB 4 (pc' := 84) (L' := [(2, .int (I 186 ((a0 + 1)).toNatClampNeg)), (0, .ref 185), (1, .int a0)]) (st' := [.int (I 186 4)]) (I' := I) (J' := J) (by with_unfolding_all rfl) ?_
          refine pq_ifn hB rfl (fun h8 => ?_) (fun h8 => ?_)
          · rw [h8, cond_true] at hq
            refine pq_s hB 1 (pc' := 110) (L' := [(2, .int (I 186 ((a0 + 1)).toNatClampNeg)), (0, .ref 185), (1, .int a0)]) (st' := [.int 0]) (I' := I) (J' := J) (by with_unfolding_all rfl) ?_
            subst hq
            exact pq_2i (x := 0) rfl ⟨_, rfl, rfl⟩
          · rw [h8, cond_false] at hq
            refine pq_s hB 6 (pc' := 95) (L' := [(2, .int (I 186 ((a0 + 1)).toNatClampNeg)), (0, .ref 185), (1, .int a0)]) (st' := [.int (I 186 4), .ref 185, .ref 185]) (I' := I) (J' := J) (by with_unfolding_all rfl) ?_
            generalize hc9 : f338_185 I J (I 186 4) = q9 at hq
            obtain ⟨v9, _, _⟩ := q9
            dsimp only at hq
            refine pq_1 rfl rfl rfl rfl (f338_185_pq hB hc9) ?_
            rintro _ I9 J9 ⟨rfl, rfl, rfl⟩
            refine pq_s hB 1 (pc' := 99) (L' := [(2, .int (I 186 ((a0 + 1)).toNatClampNeg)), (0, .ref 185), (1, .int a0)]) (st' := [.int 1, .int v9, .ref 185]) (I' := I9) (J' := J9) (by with_unfolding_all rfl) ?_
            refine pq_1 rfl rfl rfl rfl (pq_le hle (f339_185_pq hB rfl)) ?_
            rintro _ I10 J10 ⟨v10, rfl, hc10⟩
            rw [hc10] at hq
            dsimp only at hq
            refine pq_ifn hB rfl (fun h11 => ?_) (fun h11 => ?_)
            · rw [h11, cond_true] at hq
              refine pq_s hB 1 (pc' := 110) (L' := [(2, .int (I 186 ((a0 + 1)).toNatClampNeg)), (0, .ref 185), (1, .int a0)]) (st' := [.int 0]) (I' := I10) (J' := J10) (by with_unfolding_all rfl) ?_
              subst hq
              exact pq_2i (x := 0) rfl ⟨_, rfl, rfl⟩
            · rw [h11, cond_false] at hq
              refine pq_s hB 2 (pc' := 110) (L' := [(2, .int (I 186 ((a0 + 1)).toNatClampNeg)), (0, .ref 185), (1, .int a0)]) (st' := [.int 1]) (I' := I10) (J' := J10) (by with_unfolding_all rfl) ?_
              subst hq
              exact pq_2i (x := 1) rfl ⟨_, rfl, rfl⟩
        | false =>
          rw [h7, cond_false] at hq
          refine pq_tsw_d hB (cs := [21, 22, 23, 24]) rfl rfl rfl (List.forall_mem_cons.mpr ⟨h1, List.forall_mem_cons.mpr ⟨h3, List.forall_mem_cons.mpr ⟨h5, List.forall_mem_cons.mpr ⟨h7, fun c hc => by cases hc⟩⟩⟩⟩) ?_
          show pq sc B _ _ 111 _ _ _ _ _
          refine pq_s hB 1 (pc' := 112) (L' := [(2, .int (I 186 ((a0 + 1)).toNatClampNeg)), (0, .ref 185), (1, .int a0)]) (st' := [.int 1]) (I' := I) (J' := J) (by with_unfolding_all rfl) ?_
          subst hq
          exact pq_2i (x := 1) rfl ⟨_, rfl, rfl⟩
-- LPModel.behindEnds, the loop at 2, to [118]
def f344_185_l2 (N : Nat) : Nat → tI → tJ → Int32 → Option (Int32 × tI × tJ)
  | 0, _, _, _ => none
  | k + 1, I, J, x2 =>
    bif xcmp .ge x2 (I 186 8) then some (x2, I, J) else bif xcmp .ne (I 186 ((252 + (6 * x2))).toNatClampNeg) 27 then some (x2, I, J) else bif xcmp .ne (I 186 ((252 + (6 * (I 186 (((252 + (6 * x2)) + 4)).toNatClampNeg)))).toNatClampNeg) 26 then f344_185_l2 N k (tup I 200 (((I 186 (((252 + (6 * x2)) + 4)).toNatClampNeg)).toNatClampNeg) ((I 200 ((I 186 (((252 + (6 * x2)) + 4)).toNatClampNeg)).toNatClampNeg) - 0)) J (x2 + 1) else bif xcmp .le (I 200 ((I 186 (((252 + (6 * x2)) + 4)).toNatClampNeg)).toNatClampNeg) 0 then f344_185_l2 N k (tup I 200 (((I 186 (((252 + (6 * x2)) + 4)).toNatClampNeg)).toNatClampNeg) ((I 200 ((I 186 (((252 + (6 * x2)) + 4)).toNatClampNeg)).toNatClampNeg) - 0)) J (x2 + 1) else f344_185_l2 N k (tup I 200 (((I 186 (((252 + (6 * x2)) + 4)).toNatClampNeg)).toNatClampNeg) ((I 200 ((I 186 (((252 + (6 * x2)) + 4)).toNatClampNeg)).toNatClampNeg) - 1)) J ((I 186 (((252 + (6 * x2)) + 4)).toNatClampNeg) + 1)
set_option maxRecDepth 100000 in
theorem f344_185_l2_pq {sc : List Int32} {B : xM} {N : Nat} {P : Option Value → tI → tJ → Prop} (hB : kB pT B) : ∀ (k : Nat), k ≤ N → ∀ (b m : Nat), b ≤ k → b ≤ m → ∀ {I : tI} {J : tJ} {x2 : Int32} {Y : Option (Int32 × tI × tJ)}, f344_185_l2 N k I J x2 = Y → (∀ {y2 : Int32} {I1 : tI} {J1 : tJ}, Y = some (y2, I1, J1) → pq sc B m (xt_344, 5, 1) 118 [(0, .ref 185), (2, .int y2)] [] I1 J1 P) → pq sc B b (xt_344, 5, 1) 2 [(0, .ref 185), (2, .int x2)] [] I J P
  | 0, _, b, _, hb, _, _, _, _, _, _, _ => by
    have e : b = 0 := by omega
    subst e
    exact pq_zero
  | _ + 1, _, 0, _, _, _, _, _, _, _, _, _ => pq_zero
  | k + 1, hk, b + 1, m, hb, hm, I, J, x2, Y, hq, hx0 => by
    unfold f344_185_l2 at hq
    have hle : b ≤ N := by omega
    refine pq_s1 hB 4 (pc' := 10) (L' := [(0, .ref 185), (2, .int x2)]) (st' := [.int (I 186 8), .int x2]) (I' := I) (J' := J) (by with_unfolding_all rfl) ?_
    refine pq_icn hB rfl (fun h1 => ?_) (fun h1 => ?_)
    · rw [h1, cond_true] at hq
      exact pq_le (by omega) (hx0 hq.symm)
    · rw [h1, cond_false] at hq
      refine pq_s hB 9 (pc' := 28) (L' := [(0, .ref 185), (2, .int x2)]) (st' := [.int 27, .int (I 186 ((252 + (6 * x2))).toNatClampNeg)]) (I' := I) (J' := J) (by with_unfolding_all rfl) ?_
      refine pq_icn hB rfl (fun h2 => ?_) (fun h2 => ?_)
      · rw [h2, cond_true] at hq
        exact pq_le (by omega) (hx0 hq.symm)
      · rw [h2, cond_false] at hq
        refine pq_s hB 20 (pc' := 62) (L' := [(3, .int (I 186 (((252 + (6 * x2)) + 4)).toNatClampNeg)), (0, .ref 185), (2, .int x2)]) (st' := [.int 26, .int (I 186 ((252 + (6 * (I 186 (((252 + (6 * x2)) + 4)).toNatClampNeg)))).toNatClampNeg)]) (I' := I) (J' := J) (by with_unfolding_all rfl) ?_
        refine pq_icn hB rfl (fun h3 => ?_) (fun h3 => ?_)
        · rw [h3, cond_true] at hq
          refine pq_s hB 8 (pc' := 90) (L' := [(4, .int 0), (3, .int (I 186 (((252 + (6 * x2)) + 4)).toNatClampNeg)), (0, .ref 185), (2, .int x2)]) (st' := [.int 0, .int (I 200 ((I 186 (((252 + (6 * x2)) + 4)).toNatClampNeg)).toNatClampNeg), .int (I 186 (((252 + (6 * x2)) + 4)).toNatClampNeg), .ref 200]) (I' := I) (J' := J) (by with_unfolding_all rfl) ?_
          refine pq_ifn hB rfl (fun h4 => ?_) (fun h4 => ?_)
          ·
            refine pq_s hB 4 (pc' := 102) (L' := [(4, .int 0), (3, .int (I 186 (((252 + (6 * x2)) + 4)).toNatClampNeg)), (0, .ref 185), (2, .int x2)]) (st' := [.int 0]) (I' := (tup I 200 (((I 186 (((252 + (6 * x2)) + 4)).toNatClampNeg)).toNatClampNeg) ((I 200 ((I 186 (((252 + (6 * x2)) + 4)).toNatClampNeg)).toNatClampNeg) - 0))) (J' := J) (by with_unfolding_all rfl) ?_
            refine pq_ifn hB rfl (fun h5 => ?_) (fun h5 => ?_)
            ·
              refine pq_s hB 5 (pc' := 2) (L' := [(2, .int (x2 + 1)), (4, .int 0), (3, .int (I 186 (((252 + (6 * x2)) + 4)).toNatClampNeg)), (0, .ref 185)]) (st' := []) (I' := (tup I 200 (((I 186 (((252 + (6 * x2)) + 4)).toNatClampNeg)).toNatClampNeg) ((I 200 ((I 186 (((252 + (6 * x2)) + 4)).toNatClampNeg)).toNatClampNeg) - 0))) (J' := J) (by with_unfolding_all rfl) ?_
              refine pq_perm (L := [(0, .ref 185), (2, .int (x2 + 1))]) (leqn_of ⟨rfl, rfl, trivial⟩ ⟨rfl, rfl, trivial⟩ ⟨rfl, rfl, rfl, rfl, trivial⟩) ?_
              exact f344_185_l2_pq hB k (by omega) b m (by omega) (by omega) hq hx0
            · exact absurd h5 (by decide)
          · exact absurd h4 (by decide)
        · rw [h3, cond_false] at hq
          refine pq_s hB 4 (pc' := 71) (L' := [(3, .int (I 186 (((252 + (6 * x2)) + 4)).toNatClampNeg)), (0, .ref 185), (2, .int x2)]) (st' := [.int (I 200 ((I 186 (((252 + (6 * x2)) + 4)).toNatClampNeg)).toNatClampNeg)]) (I' := I) (J' := J) (by with_unfolding_all rfl) ?_
          refine pq_ifn hB rfl (fun h6 => ?_) (fun h6 => ?_)
          · rw [h6, cond_true] at hq
            refine pq_s hB 8 (pc' := 90) (L' := [(4, .int 0), (3, .int (I 186 (((252 + (6 * x2)) + 4)).toNatClampNeg)), (0, .ref 185), (2, .int x2)]) (st' := [.int 0, .int (I 200 ((I 186 (((252 + (6 * x2)) + 4)).toNatClampNeg)).toNatClampNeg), .int (I 186 (((252 + (6 * x2)) + 4)).toNatClampNeg), .ref 200]) (I' := I) (J' := J) (by with_unfolding_all rfl) ?_
            refine pq_ifn hB rfl (fun h7 => ?_) (fun h7 => ?_)
            ·
              refine pq_s hB 4 (pc' := 102) (L' := [(4, .int 0), (3, .int (I 186 (((252 + (6 * x2)) + 4)).toNatClampNeg)), (0, .ref 185), (2, .int x2)]) (st' := [.int 0]) (I' := (tup I 200 (((I 186 (((252 + (6 * x2)) + 4)).toNatClampNeg)).toNatClampNeg) ((I 200 ((I 186 (((252 + (6 * x2)) + 4)).toNatClampNeg)).toNatClampNeg) - 0))) (J' := J) (by with_unfolding_all rfl) ?_
              refine pq_ifn hB rfl (fun h8 => ?_) (fun h8 => ?_)
              ·
                refine pq_s hB 5 (pc' := 2) (L' := [(2, .int (x2 + 1)), (4, .int 0), (3, .int (I 186 (((252 + (6 * x2)) + 4)).toNatClampNeg)), (0, .ref 185)]) (st' := []) (I' := (tup I 200 (((I 186 (((252 + (6 * x2)) + 4)).toNatClampNeg)).toNatClampNeg) ((I 200 ((I 186 (((252 + (6 * x2)) + 4)).toNatClampNeg)).toNatClampNeg) - 0))) (J' := J) (by with_unfolding_all rfl) ?_
                refine pq_perm (L := [(0, .ref 185), (2, .int (x2 + 1))]) (leqn_of ⟨rfl, rfl, trivial⟩ ⟨rfl, rfl, trivial⟩ ⟨rfl, rfl, rfl, rfl, trivial⟩) ?_
                exact f344_185_l2_pq hB k (by omega) b m (by omega) (by omega) hq hx0
              · exact absurd h8 (by decide)
            · exact absurd h7 (by decide)
          · rw [h6, cond_false] at hq
            refine pq_s hB 9 (pc' := 90) (L' := [(4, .int 1), (3, .int (I 186 (((252 + (6 * x2)) + 4)).toNatClampNeg)), (0, .ref 185), (2, .int x2)]) (st' := [.int 1, .int (I 200 ((I 186 (((252 + (6 * x2)) + 4)).toNatClampNeg)).toNatClampNeg), .int (I 186 (((252 + (6 * x2)) + 4)).toNatClampNeg), .ref 200]) (I' := I) (J' := J) (by with_unfolding_all rfl) ?_
            refine pq_ifn hB rfl (fun h9 => ?_) (fun h9 => ?_)
            · exact absurd h9 (by decide)
            ·
              refine pq_s hB 5 (pc' := 102) (L' := [(4, .int 1), (3, .int (I 186 (((252 + (6 * x2)) + 4)).toNatClampNeg)), (0, .ref 185), (2, .int x2)]) (st' := [.int 1]) (I' := (tup I 200 (((I 186 (((252 + (6 * x2)) + 4)).toNatClampNeg)).toNatClampNeg) ((I 200 ((I 186 (((252 + (6 * x2)) + 4)).toNatClampNeg)).toNatClampNeg) - 1))) (J' := J) (by with_unfolding_all rfl) ?_
              refine pq_ifn hB rfl (fun h10 => ?_) (fun h10 => ?_)
              · exact absurd h10 (by decide)
              ·
                refine pq_s hB 6 (pc' := 2) (L' := [(2, .int ((I 186 (((252 + (6 * x2)) + 4)).toNatClampNeg) + 1)), (4, .int 1), (3, .int (I 186 (((252 + (6 * x2)) + 4)).toNatClampNeg)), (0, .ref 185)]) (st' := []) (I' := (tup I 200 (((I 186 (((252 + (6 * x2)) + 4)).toNatClampNeg)).toNatClampNeg) ((I 200 ((I 186 (((252 + (6 * x2)) + 4)).toNatClampNeg)).toNatClampNeg) - 1))) (J' := J) (by with_unfolding_all rfl) ?_
                refine pq_perm (L := [(0, .ref 185), (2, .int ((I 186 (((252 + (6 * x2)) + 4)).toNatClampNeg) + 1))]) (leqn_of ⟨rfl, rfl, trivial⟩ ⟨rfl, rfl, trivial⟩ ⟨rfl, rfl, rfl, rfl, trivial⟩) ?_
                exact f344_185_l2_pq hB k (by omega) b m (by omega) (by omega) hq hx0
-- LPModel.behindEnds
def f344_185 (N : Nat) (I : tI) (J : tJ) (a0 : Int32) : Option (Int32 × tI × tJ) :=
  (match f344_185_l2 N N I J a0 with | none => none | some (y1_2, I1, J1) => some (y1_2, I1, J1))
set_option maxRecDepth 100000 in
theorem f344_185_pq {sc : List Int32} {B : xM} {N : Nat} {I : tI} {J : tJ} {a0 : Int32} (hB : kB pT B) : ∀ {X : Option (Int32 × tI × tJ)}, f344_185 N I J a0 = X → pq sc B N (xt_344, 5, 1) 0 [(0, .ref 185), (1, .int a0)] [] I J (fun v I1 J1 => ∃ a, v = some (.int a) ∧ X = some (a, I1, J1)) := by
  intro X hq
  unfold f344_185 at hq
  have hle : N ≤ N := Nat.le_refl N
  refine pq_s hB 2 (pc' := 2) (L' := [(2, .int a0), (0, .ref 185), (1, .int a0)]) (st' := []) (I' := I) (J' := J) (by with_unfolding_all rfl) ?_
  refine pq_perm (L := [(0, .ref 185), (2, .int a0)]) (leqn_of ⟨rfl, rfl, trivial⟩ ⟨rfl, rfl, trivial⟩ ⟨rfl, rfl, rfl, trivial⟩) ?_
  refine f344_185_l2_pq hB N (Nat.le_refl N) N N hle (Nat.le_refl N) rfl ?_
  intro y1_2 I1 J1 hc1
  rw [hc1] at hq
  dsimp only at hq
  refine pq_s hB 1 (pc' := 119) (L' := [(0, .ref 185), (2, .int y1_2)]) (st' := [.int y1_2]) (I' := I1) (J' := J1) (by with_unfolding_all rfl) ?_
  subst hq
  exact pq_2i (x := y1_2) rfl ⟨_, rfl, rfl⟩
-- LPModel.holds
def f343_185 (N : Nat) (I : tI) (J : tJ) (a0 : Int32) : Option (Int32 × tI × tJ) :=
  bif xcmp .eq ((I 186 (a0).toNatClampNeg) - 2500) 20 then (bif xcmp .ne (I 186 ((a0 + 5)).toNatClampNeg) 60 then (bif xcmp .ne (I 186 ((a0 + 5)).toNatClampNeg) 62 then (bif xcmp .ne (I 186 ((128 + (I 186 ((a0 + 1)).toNatClampNeg))).toNatClampNeg) (I 186 ((a0 + 2)).toNatClampNeg) then some (0, I, J) else some (1, I, J)) else bif xcmp .le (I 186 ((128 + (I 186 ((a0 + 1)).toNatClampNeg))).toNatClampNeg) (I 186 ((a0 + 2)).toNatClampNeg) then some (0, I, J) else some (1, I, J)) else bif xcmp .ge (I 186 ((128 + (I 186 ((a0 + 1)).toNatClampNeg))).toNatClampNeg) (I 186 ((a0 + 2)).toNatClampNeg) then some (0, I, J) else some (1, I, J)) else bif xcmp .ne ((I 186 (a0).toNatClampNeg) - 2500) 29 then (match f261_185 I J (I 186 ((a0 + 1)).toNatClampNeg) with | (v8, I8, J8) => some (v8, I8, J8)) else (match f265_185 N I J (I 186 ((a0 + 1)).toNatClampNeg) with | none => none | some (v9, I9, J9) => some (v9, I9, J9))
set_option maxRecDepth 100000 in
theorem f343_185_pq {sc : List Int32} {B : xM} {N : Nat} {I : tI} {J : tJ} {a0 : Int32} (hB : kB pT B) : ∀ {X : Option (Int32 × tI × tJ)}, f343_185 N I J a0 = X → pq sc B N (xt_343, 5, 3) 0 [(0, .ref 185), (1, .int a0)] [] I J (fun v I1 J1 => ∃ a, v = some (.int a) ∧ X = some (a, I1, J1)) := by
  intro X hq
  unfold f343_185 at hq
  have hle : N ≤ N := Nat.le_refl N
  refine pq_s hB 16 (pc' := 23) (L' := [(3, .int (I 186 ((a0 + 1)).toNatClampNeg)), (2, .int ((I 186 (a0).toNatClampNeg) - 2500)), (0, .ref 185), (1, .int a0)]) (st' := [.int 20, .int ((I 186 (a0).toNatClampNeg) - 2500)]) (I' := I) (J' := J) (by with_unfolding_all rfl) ?_
  refine pq_icn hB rfl (fun h1 => ?_) (fun h1 => ?_)
  · rw [h1, cond_true] at hq
    refine pq_s hB 14 (pc' := 68) (L' := [(4, .int (I 186 ((128 + (I 186 ((a0 + 1)).toNatClampNeg))).toNatClampNeg)), (3, .int (I 186 ((a0 + 1)).toNatClampNeg)), (2, .int ((I 186 (a0).toNatClampNeg) - 2500)), (0, .ref 185), (1, .int a0)]) (st' := [.int 60, .int (I 186 ((a0 + 5)).toNatClampNeg)]) (I' := I) (J' := J) (by with_unfolding_all rfl) ?_
    refine pq_icn hB rfl (fun h2 => ?_) (fun h2 => ?_)
    · rw [h2, cond_true] at hq
      refine pq_s hB 7 (pc' := 102) (L' := [(4, .int (I 186 ((128 + (I 186 ((a0 + 1)).toNatClampNeg))).toNatClampNeg)), (3, .int (I 186 ((a0 + 1)).toNatClampNeg)), (2, .int ((I 186 (a0).toNatClampNeg) - 2500)), (0, .ref 185), (1, .int a0)]) (st' := [.int 62, .int (I 186 ((a0 + 5)).toNatClampNeg)]) (I' := I) (J' := J) (by with_unfolding_all rfl) ?_
      refine pq_icn hB rfl (fun h3 => ?_) (fun h3 => ?_)
      · rw [h3, cond_true] at hq
        refine pq_s hB 7 (pc' := 136) (L' := [(4, .int (I 186 ((128 + (I 186 ((a0 + 1)).toNatClampNeg))).toNatClampNeg)), (3, .int (I 186 ((a0 + 1)).toNatClampNeg)), (2, .int ((I 186 (a0).toNatClampNeg) - 2500)), (0, .ref 185), (1, .int a0)]) (st' := [.int (I 186 ((a0 + 2)).toNatClampNeg), .int (I 186 ((128 + (I 186 ((a0 + 1)).toNatClampNeg))).toNatClampNeg)]) (I' := I) (J' := J) (by with_unfolding_all rfl) ?_
        refine pq_icn hB rfl (fun h4 => ?_) (fun h4 => ?_)
        · rw [h4, cond_true] at hq
          refine pq_s hB 1 (pc' := 144) (L' := [(4, .int (I 186 ((128 + (I 186 ((a0 + 1)).toNatClampNeg))).toNatClampNeg)), (3, .int (I 186 ((a0 + 1)).toNatClampNeg)), (2, .int ((I 186 (a0).toNatClampNeg) - 2500)), (0, .ref 185), (1, .int a0)]) (st' := [.int 0]) (I' := I) (J' := J) (by with_unfolding_all rfl) ?_
          subst hq
          exact pq_2i (x := 0) rfl ⟨_, rfl, rfl⟩
        · rw [h4, cond_false] at hq
          refine pq_s hB 2 (pc' := 144) (L' := [(4, .int (I 186 ((128 + (I 186 ((a0 + 1)).toNatClampNeg))).toNatClampNeg)), (3, .int (I 186 ((a0 + 1)).toNatClampNeg)), (2, .int ((I 186 (a0).toNatClampNeg) - 2500)), (0, .ref 185), (1, .int a0)]) (st' := [.int 1]) (I' := I) (J' := J) (by with_unfolding_all rfl) ?_
          subst hq
          exact pq_2i (x := 1) rfl ⟨_, rfl, rfl⟩
      · rw [h3, cond_false] at hq
        refine pq_s hB 7 (pc' := 115) (L' := [(4, .int (I 186 ((128 + (I 186 ((a0 + 1)).toNatClampNeg))).toNatClampNeg)), (3, .int (I 186 ((a0 + 1)).toNatClampNeg)), (2, .int ((I 186 (a0).toNatClampNeg) - 2500)), (0, .ref 185), (1, .int a0)]) (st' := [.int (I 186 ((a0 + 2)).toNatClampNeg), .int (I 186 ((128 + (I 186 ((a0 + 1)).toNatClampNeg))).toNatClampNeg)]) (I' := I) (J' := J) (by with_unfolding_all rfl) ?_
        refine pq_icn hB rfl (fun h5 => ?_) (fun h5 => ?_)
        · rw [h5, cond_true] at hq
          refine pq_s hB 2 (pc' := 144) (L' := [(4, .int (I 186 ((128 + (I 186 ((a0 + 1)).toNatClampNeg))).toNatClampNeg)), (3, .int (I 186 ((a0 + 1)).toNatClampNeg)), (2, .int ((I 186 (a0).toNatClampNeg) - 2500)), (0, .ref 185), (1, .int a0)]) (st' := [.int 0]) (I' := I) (J' := J) (by with_unfolding_all rfl) ?_
          subst hq
          exact pq_2i (x := 0) rfl ⟨_, rfl, rfl⟩
        · rw [h5, cond_false] at hq
          refine pq_s hB 2 (pc' := 144) (L' := [(4, .int (I 186 ((128 + (I 186 ((a0 + 1)).toNatClampNeg))).toNatClampNeg)), (3, .int (I 186 ((a0 + 1)).toNatClampNeg)), (2, .int ((I 186 (a0).toNatClampNeg) - 2500)), (0, .ref 185), (1, .int a0)]) (st' := [.int 1]) (I' := I) (J' := J) (by with_unfolding_all rfl) ?_
          subst hq
          exact pq_2i (x := 1) rfl ⟨_, rfl, rfl⟩
    · rw [h2, cond_false] at hq
      refine pq_s hB 7 (pc' := 81) (L' := [(4, .int (I 186 ((128 + (I 186 ((a0 + 1)).toNatClampNeg))).toNatClampNeg)), (3, .int (I 186 ((a0 + 1)).toNatClampNeg)), (2, .int ((I 186 (a0).toNatClampNeg) - 2500)), (0, .ref 185), (1, .int a0)]) (st' := [.int (I 186 ((a0 + 2)).toNatClampNeg), .int (I 186 ((128 + (I 186 ((a0 + 1)).toNatClampNeg))).toNatClampNeg)]) (I' := I) (J' := J) (by with_unfolding_all rfl) ?_
      refine pq_icn hB rfl (fun h6 => ?_) (fun h6 => ?_)
      · rw [h6, cond_true] at hq
        refine pq_s hB 2 (pc' := 144) (L' := [(4, .int (I 186 ((128 + (I 186 ((a0 + 1)).toNatClampNeg))).toNatClampNeg)), (3, .int (I 186 ((a0 + 1)).toNatClampNeg)), (2, .int ((I 186 (a0).toNatClampNeg) - 2500)), (0, .ref 185), (1, .int a0)]) (st' := [.int 0]) (I' := I) (J' := J) (by with_unfolding_all rfl) ?_
        subst hq
        exact pq_2i (x := 0) rfl ⟨_, rfl, rfl⟩
      · rw [h6, cond_false] at hq
        refine pq_s hB 2 (pc' := 144) (L' := [(4, .int (I 186 ((128 + (I 186 ((a0 + 1)).toNatClampNeg))).toNatClampNeg)), (3, .int (I 186 ((a0 + 1)).toNatClampNeg)), (2, .int ((I 186 (a0).toNatClampNeg) - 2500)), (0, .ref 185), (1, .int a0)]) (st' := [.int 1]) (I' := I) (J' := J) (by with_unfolding_all rfl) ?_
        subst hq
        exact pq_2i (x := 1) rfl ⟨_, rfl, rfl⟩
  · rw [h1, cond_false] at hq
    refine pq_s hB 2 (pc' := 29) (L' := [(3, .int (I 186 ((a0 + 1)).toNatClampNeg)), (2, .int ((I 186 (a0).toNatClampNeg) - 2500)), (0, .ref 185), (1, .int a0)]) (st' := [.int 29, .int ((I 186 (a0).toNatClampNeg) - 2500)]) (I' := I) (J' := J) (by with_unfolding_all rfl) ?_
    refine pq_icn hB rfl (fun h7 => ?_) (fun h7 => ?_)
    · rw [h7, cond_true] at hq
      refine pq_s hB 2 (pc' := 42) (L' := [(3, .int (I 186 ((a0 + 1)).toNatClampNeg)), (2, .int ((I 186 (a0).toNatClampNeg) - 2500)), (0, .ref 185), (1, .int a0)]) (st' := [.int (I 186 ((a0 + 1)).toNatClampNeg), .ref 185]) (I' := I) (J' := J) (by with_unfolding_all rfl) ?_
      generalize hc8 : f261_185 I J (I 186 ((a0 + 1)).toNatClampNeg) = q8 at hq
      obtain ⟨v8, _, _⟩ := q8
      dsimp only at hq
      refine pq_1 rfl rfl rfl rfl (f261_185_pq hB hc8) ?_
      rintro _ I8 J8 ⟨rfl, rfl, rfl⟩
      subst hq
      exact pq_2i (x := v8) rfl ⟨_, rfl, rfl⟩
    · rw [h7, cond_false] at hq
      refine pq_s hB 2 (pc' := 34) (L' := [(3, .int (I 186 ((a0 + 1)).toNatClampNeg)), (2, .int ((I 186 (a0).toNatClampNeg) - 2500)), (0, .ref 185), (1, .int a0)]) (st' := [.int (I 186 ((a0 + 1)).toNatClampNeg), .ref 185]) (I' := I) (J' := J) (by with_unfolding_all rfl) ?_
      refine pq_1 rfl rfl rfl rfl (pq_le hle (f265_185_pq hB rfl)) ?_
      rintro _ I9 J9 ⟨v9, rfl, hc9⟩
      rw [hc9] at hq
      dsimp only at hq
      refine pq_s hB 1 (pc' := 45) (L' := [(3, .int (I 186 ((a0 + 1)).toNatClampNeg)), (2, .int ((I 186 (a0).toNatClampNeg) - 2500)), (0, .ref 185), (1, .int a0)]) (st' := [.int v9]) (I' := I9) (J' := J9) (by with_unfolding_all rfl) ?_
      subst hq
      exact pq_2i (x := v9) rfl ⟨_, rfl, rfl⟩
-- LPModel.lives, the loop at 32, to [185, 91, 53]
def f345_185_l32 (N : Nat) : Nat → tI → tJ → Int32 → Option (Nat × Int32 × tI × tJ)
  | 0, _, _, _ => none
  | k + 1, I, J, x2 =>
    bif xcmp .ge x2 (I 186 8) then some (0, x2, I, J) else bif xcmp .ne (I 185 31) 300 then (bif xcmp .ne (I 186 ((252 + (6 * x2))).toNatClampNeg) 28 then (match f342_185 N (tup I 185 31 ((I 185 31) + 1)) J (252 + (6 * x2)) with | none => none | some (v5, I5, J5) => bif xcmp .eq v5 0 then (bif xcmp .ne (I5 186 ((252 + (6 * x2))).toNatClampNeg) 26 then (bif xcmp .lt (I5 186 ((252 + (6 * x2))).toNatClampNeg) 2500 then (match f344_185 N (tup I5 201 0 ((I 201 0) + 1)) J5 (x2 + 1) with | none => none | some (v9, I9, J9) => f345_185_l32 N k I9 J9 v9) else (match f343_185 N (tup I5 201 0 ((I 201 0) + 1)) J5 (252 + (6 * x2)) with | none => none | some (v10, I10, J10) => bif xcmp .ne v10 0 then (match f344_185 N I10 J10 (x2 + 1) with | none => none | some (v12, I12, J12) => f345_185_l32 N k I12 J12 v12) else (match f344_185 N I10 J10 ((I10 186 (((252 + (6 * x2)) + 4)).toNatClampNeg) + 1) with | none => none | some (v13, I13, J13) => f345_185_l32 N k I13 J13 v13))) else bif xcmp .lt (I5 186 ((252 + (6 * x2))).toNatClampNeg) 2500 then (match f344_185 N (tup (tup I5 201 0 ((I 201 0) + 1)) 200 ((x2).toNatClampNeg) ((I5 186 (((252 + (6 * x2)) + 1)).toNatClampNeg) - 1)) J5 (x2 + 1) with | none => none | some (v15, I15, J15) => f345_185_l32 N k I15 J15 v15) else (match f343_185 N (tup (tup I5 201 0 ((I 201 0) + 1)) 200 ((x2).toNatClampNeg) ((I5 186 (((252 + (6 * x2)) + 1)).toNatClampNeg) - 1)) J5 (252 + (6 * x2)) with | none => none | some (v16, I16, J16) => bif xcmp .ne v16 0 then (match f344_185 N I16 J16 (x2 + 1) with | none => none | some (v18, I18, J18) => f345_185_l32 N k I18 J18 v18) else (match f344_185 N I16 J16 ((I16 186 (((252 + (6 * x2)) + 4)).toNatClampNeg) + 1) with | none => none | some (v19, I19, J19) => f345_185_l32 N k I19 J19 v19))) else bif xcmp .ne (I5 186 ((252 + (6 * x2))).toNatClampNeg) 26 then (bif xcmp .lt (I5 186 ((252 + (6 * x2))).toNatClampNeg) 2500 then (match f344_185 N (tup I5 201 0 ((I 201 0) + 0)) J5 (x2 + 1) with | none => none | some (v22, I22, J22) => f345_185_l32 N k I22 J22 v22) else (match f343_185 N (tup I5 201 0 ((I 201 0) + 0)) J5 (252 + (6 * x2)) with | none => none | some (v23, I23, J23) => bif xcmp .ne v23 0 then (match f344_185 N I23 J23 (x2 + 1) with | none => none | some (v25, I25, J25) => f345_185_l32 N k I25 J25 v25) else (match f344_185 N I23 J23 ((I23 186 (((252 + (6 * x2)) + 4)).toNatClampNeg) + 1) with | none => none | some (v26, I26, J26) => f345_185_l32 N k I26 J26 v26))) else bif xcmp .lt (I5 186 ((252 + (6 * x2))).toNatClampNeg) 2500 then (match f344_185 N (tup (tup I5 201 0 ((I 201 0) + 0)) 200 ((x2).toNatClampNeg) ((I5 186 (((252 + (6 * x2)) + 1)).toNatClampNeg) - 1)) J5 (x2 + 1) with | none => none | some (v28, I28, J28) => f345_185_l32 N k I28 J28 v28) else (match f343_185 N (tup (tup I5 201 0 ((I 201 0) + 0)) 200 ((x2).toNatClampNeg) ((I5 186 (((252 + (6 * x2)) + 1)).toNatClampNeg) - 1)) J5 (252 + (6 * x2)) with | none => none | some (v29, I29, J29) => bif xcmp .ne v29 0 then (match f344_185 N I29 J29 (x2 + 1) with | none => none | some (v31, I31, J31) => f345_185_l32 N k I31 J31 v31) else (match f344_185 N I29 J29 ((I29 186 (((252 + (6 * x2)) + 4)).toNatClampNeg) + 1) with | none => none | some (v32, I32, J32) => f345_185_l32 N k I32 J32 v32))) else some (1, x2, (tup I 185 31 ((I 185 31) + 1)), J)) else some (2, x2, I, J)
set_option maxRecDepth 100000 in
theorem f345_185_l32_pq {sc : List Int32} {B : xM} {N : Nat} {P : Option Value → tI → tJ → Prop} (hB : kB pT B) : ∀ (k : Nat), k ≤ N → ∀ (b m : Nat), b ≤ k → b ≤ m → ∀ {I : tI} {J : tJ} {x2 : Int32} {Y : Option (Nat × Int32 × tI × tJ)}, f345_185_l32 N k I J x2 = Y → (∀ {y2 : Int32} {I1 : tI} {J1 : tJ}, Y = some (0, y2, I1, J1) → pq sc B m (xt_345, 4, 0) 185 [(0, .ref 185), (2, .int y2)] [] I1 J1 P) → (∀ {y2 : Int32} {I1 : tI} {J1 : tJ}, Y = some (1, y2, I1, J1) → pq sc B m (xt_345, 4, 0) 91 [(0, .ref 185), (2, .int y2)] [] I1 J1 P) → (∀ {y2 : Int32} {I1 : tI} {J1 : tJ}, Y = some (2, y2, I1, J1) → pq sc B m (xt_345, 4, 0) 53 [(0, .ref 185), (2, .int y2)] [] I1 J1 P) → pq sc B b (xt_345, 4, 0) 32 [(0, .ref 185), (2, .int x2)] [] I J P
  | 0, _, b, _, hb, _, _, _, _, _, _, _, _, _ => by
    have e : b = 0 := by omega
    subst e
    exact pq_zero
  | _ + 1, _, 0, _, _, _, _, _, _, _, _, _, _, _ => pq_zero
  | k + 1, hk, b + 1, m, hb, hm, I, J, x2, Y, hq, hx0, hx1, hx2 => by
    unfold f345_185_l32 at hq
    have hle : b ≤ N := by omega
    refine pq_s1 hB 4 (pc' := 40) (L' := [(0, .ref 185), (2, .int x2)]) (st' := [.int (I 186 8), .int x2]) (I' := I) (J' := J) (by with_unfolding_all rfl) ?_
    refine pq_icn hB rfl (fun h2 => ?_) (fun h2 => ?_)
    · rw [h2, cond_true] at hq
      exact pq_le (by omega) (hx0 hq.symm)
    · rw [h2, cond_false] at hq
      refine pq_s hB 3 (pc' := 50) (L' := [(0, .ref 185), (2, .int x2)]) (st' := [.int 300, .int (I 185 31)]) (I' := I) (J' := J) (by with_unfolding_all rfl) ?_
      refine pq_icn hB rfl (fun h3 => ?_) (fun h3 => ?_)
      · rw [h3, cond_true] at hq
        refine pq_s hB 17 (pc' := 88) (L' := [(3, .int (252 + (6 * x2))), (0, .ref 185), (2, .int x2)]) (st' := [.int 28, .int (I 186 ((252 + (6 * x2))).toNatClampNeg)]) (I' := (tup I 185 31 ((I 185 31) + 1))) (J' := J) (by with_unfolding_all rfl) ?_
        refine pq_icn hB rfl (fun h4 => ?_) (fun h4 => ?_)
        · rw [h4, cond_true] at hq
          refine pq_s hB 7 (pc' := 101) (L' := [(3, .int (252 + (6 * x2))), (0, .ref 185), (2, .int x2)]) (st' := [.int (252 + (6 * x2)), .ref 185, .int (I 201 0), .int 0, .ref 201]) (I' := (tup I 185 31 ((I 185 31) + 1))) (J' := J) (by with_unfolding_all rfl) ?_
          refine pq_1 rfl rfl rfl rfl (pq_le hle (f342_185_pq hB rfl)) ?_
          rintro _ I5 J5 ⟨v5, rfl, hc5⟩
          rw [hc5] at hq
          dsimp only at hq
          refine pq_ifn hB rfl (fun h6 => ?_) (fun h6 => ?_)
          · rw [h6, cond_true] at hq
            refine pq_s hB 8 (pc' := 122) (L' := [(3, .int (252 + (6 * x2))), (0, .ref 185), (2, .int x2)]) (st' := [.int 26, .int (I5 186 ((252 + (6 * x2))).toNatClampNeg)]) (I' := (tup I5 201 0 ((I 201 0) + 1))) (J' := J5) (by with_unfolding_all rfl) ?_
            refine pq_icn hB rfl (fun h7 => ?_) (fun h7 => ?_)
            · rw [h7, cond_true] at hq
              refine pq_s hB 6 (pc' := 151) (L' := [(3, .int (252 + (6 * x2))), (0, .ref 185), (2, .int x2)]) (st' := [.int 2500, .int (I5 186 ((252 + (6 * x2))).toNatClampNeg), .ref 185]) (I' := (tup I5 201 0 ((I 201 0) + 1))) (J' := J5) (by with_unfolding_all rfl) ?_
              refine pq_icn hB rfl (fun h8 => ?_) (fun h8 => ?_)
              · rw [h8, cond_true] at hq
                refine pq_s hB 3 (pc' := 178) (L' := [(3, .int (252 + (6 * x2))), (0, .ref 185), (2, .int x2)]) (st' := [.int (x2 + 1), .ref 185]) (I' := (tup I5 201 0 ((I 201 0) + 1))) (J' := J5) (by with_unfolding_all rfl) ?_
                refine pq_1 rfl rfl rfl rfl (pq_le hle (f344_185_pq hB rfl)) ?_
                rintro _ I9 J9 ⟨v9, rfl, hc9⟩
                rw [hc9] at hq
                dsimp only at hq
                refine pq_s hB 2 (pc' := 32) (L' := [(2, .int v9), (3, .int (252 + (6 * x2))), (0, .ref 185)]) (st' := []) (I' := I9) (J' := J9) (by with_unfolding_all rfl) ?_
                refine pq_perm (L := [(0, .ref 185), (2, .int v9)]) (leqn_of ⟨rfl, rfl, trivial⟩ ⟨rfl, rfl, trivial⟩ ⟨rfl, rfl, rfl, trivial⟩) ?_
                exact f345_185_l32_pq hB k (by omega) b m (by omega) (by omega) hq hx0 hx1 hx2
              · rw [h8, cond_false] at hq
                refine pq_s hB 2 (pc' := 156) (L' := [(3, .int (252 + (6 * x2))), (0, .ref 185), (2, .int x2)]) (st' := [.int (252 + (6 * x2)), .ref 185, .ref 185]) (I' := (tup I5 201 0 ((I 201 0) + 1))) (J' := J5) (by with_unfolding_all rfl) ?_
                refine pq_1 rfl rfl rfl rfl (pq_le hle (f343_185_pq hB rfl)) ?_
                rintro _ I10 J10 ⟨v10, rfl, hc10⟩
                rw [hc10] at hq
                dsimp only at hq
                refine pq_ifn hB rfl (fun h11 => ?_) (fun h11 => ?_)
                · rw [h11, cond_true] at hq
                  refine pq_s hB 3 (pc' := 178) (L' := [(3, .int (252 + (6 * x2))), (0, .ref 185), (2, .int x2)]) (st' := [.int (x2 + 1), .ref 185]) (I' := I10) (J' := J10) (by with_unfolding_all rfl) ?_
                  refine pq_1 rfl rfl rfl rfl (pq_le hle (f344_185_pq hB rfl)) ?_
                  rintro _ I12 J12 ⟨v12, rfl, hc12⟩
                  rw [hc12] at hq
                  dsimp only at hq
                  refine pq_s hB 2 (pc' := 32) (L' := [(2, .int v12), (3, .int (252 + (6 * x2))), (0, .ref 185)]) (st' := []) (I' := I12) (J' := J12) (by with_unfolding_all rfl) ?_
                  refine pq_perm (L := [(0, .ref 185), (2, .int v12)]) (leqn_of ⟨rfl, rfl, trivial⟩ ⟨rfl, rfl, trivial⟩ ⟨rfl, rfl, rfl, trivial⟩) ?_
                  exact f345_185_l32_pq hB k (by omega) b m (by omega) (by omega) hq hx0 hx1 hx2
                · rw [h11, cond_false] at hq
                  refine pq_s hB 9 (pc' := 178) (L' := [(3, .int (252 + (6 * x2))), (0, .ref 185), (2, .int x2)]) (st' := [.int ((I10 186 (((252 + (6 * x2)) + 4)).toNatClampNeg) + 1), .ref 185]) (I' := I10) (J' := J10) (by with_unfolding_all rfl) ?_
                  refine pq_1 rfl rfl rfl rfl (pq_le hle (f344_185_pq hB rfl)) ?_
                  rintro _ I13 J13 ⟨v13, rfl, hc13⟩
                  rw [hc13] at hq
                  dsimp only at hq
                  refine pq_s hB 2 (pc' := 32) (L' := [(2, .int v13), (3, .int (252 + (6 * x2))), (0, .ref 185)]) (st' := []) (I' := I13) (J' := J13) (by with_unfolding_all rfl) ?_
                  refine pq_perm (L := [(0, .ref 185), (2, .int v13)]) (leqn_of ⟨rfl, rfl, trivial⟩ ⟨rfl, rfl, trivial⟩ ⟨rfl, rfl, rfl, trivial⟩) ?_
                  exact f345_185_l32_pq hB k (by omega) b m (by omega) (by omega) hq hx0 hx1 hx2
            · rw [h7, cond_false] at hq
              refine pq_s hB 18 (pc' := 151) (L' := [(3, .int (252 + (6 * x2))), (0, .ref 185), (2, .int x2)]) (st' := [.int 2500, .int (I5 186 ((252 + (6 * x2))).toNatClampNeg), .ref 185]) (I' := (tup (tup I5 201 0 ((I 201 0) + 1)) 200 ((x2).toNatClampNeg) ((I5 186 (((252 + (6 * x2)) + 1)).toNatClampNeg) - 1))) (J' := J5) (by with_unfolding_all rfl) ?_
              refine pq_icn hB rfl (fun h14 => ?_) (fun h14 => ?_)
              · rw [h14, cond_true] at hq
                refine pq_s hB 3 (pc' := 178) (L' := [(3, .int (252 + (6 * x2))), (0, .ref 185), (2, .int x2)]) (st' := [.int (x2 + 1), .ref 185]) (I' := (tup (tup I5 201 0 ((I 201 0) + 1)) 200 ((x2).toNatClampNeg) ((I5 186 (((252 + (6 * x2)) + 1)).toNatClampNeg) - 1))) (J' := J5) (by with_unfolding_all rfl) ?_
                refine pq_1 rfl rfl rfl rfl (pq_le hle (f344_185_pq hB rfl)) ?_
                rintro _ I15 J15 ⟨v15, rfl, hc15⟩
                rw [hc15] at hq
                dsimp only at hq
                refine pq_s hB 2 (pc' := 32) (L' := [(2, .int v15), (3, .int (252 + (6 * x2))), (0, .ref 185)]) (st' := []) (I' := I15) (J' := J15) (by with_unfolding_all rfl) ?_
                refine pq_perm (L := [(0, .ref 185), (2, .int v15)]) (leqn_of ⟨rfl, rfl, trivial⟩ ⟨rfl, rfl, trivial⟩ ⟨rfl, rfl, rfl, trivial⟩) ?_
                exact f345_185_l32_pq hB k (by omega) b m (by omega) (by omega) hq hx0 hx1 hx2
              · rw [h14, cond_false] at hq
                refine pq_s hB 2 (pc' := 156) (L' := [(3, .int (252 + (6 * x2))), (0, .ref 185), (2, .int x2)]) (st' := [.int (252 + (6 * x2)), .ref 185, .ref 185]) (I' := (tup (tup I5 201 0 ((I 201 0) + 1)) 200 ((x2).toNatClampNeg) ((I5 186 (((252 + (6 * x2)) + 1)).toNatClampNeg) - 1))) (J' := J5) (by with_unfolding_all rfl) ?_
                refine pq_1 rfl rfl rfl rfl (pq_le hle (f343_185_pq hB rfl)) ?_
                rintro _ I16 J16 ⟨v16, rfl, hc16⟩
                rw [hc16] at hq
                dsimp only at hq
                refine pq_ifn hB rfl (fun h17 => ?_) (fun h17 => ?_)
                · rw [h17, cond_true] at hq
                  refine pq_s hB 3 (pc' := 178) (L' := [(3, .int (252 + (6 * x2))), (0, .ref 185), (2, .int x2)]) (st' := [.int (x2 + 1), .ref 185]) (I' := I16) (J' := J16) (by with_unfolding_all rfl) ?_
                  refine pq_1 rfl rfl rfl rfl (pq_le hle (f344_185_pq hB rfl)) ?_
                  rintro _ I18 J18 ⟨v18, rfl, hc18⟩
                  rw [hc18] at hq
                  dsimp only at hq
                  refine pq_s hB 2 (pc' := 32) (L' := [(2, .int v18), (3, .int (252 + (6 * x2))), (0, .ref 185)]) (st' := []) (I' := I18) (J' := J18) (by with_unfolding_all rfl) ?_
                  refine pq_perm (L := [(0, .ref 185), (2, .int v18)]) (leqn_of ⟨rfl, rfl, trivial⟩ ⟨rfl, rfl, trivial⟩ ⟨rfl, rfl, rfl, trivial⟩) ?_
                  exact f345_185_l32_pq hB k (by omega) b m (by omega) (by omega) hq hx0 hx1 hx2
                · rw [h17, cond_false] at hq
                  refine pq_s hB 9 (pc' := 178) (L' := [(3, .int (252 + (6 * x2))), (0, .ref 185), (2, .int x2)]) (st' := [.int ((I16 186 (((252 + (6 * x2)) + 4)).toNatClampNeg) + 1), .ref 185]) (I' := I16) (J' := J16) (by with_unfolding_all rfl) ?_
                  refine pq_1 rfl rfl rfl rfl (pq_le hle (f344_185_pq hB rfl)) ?_
                  rintro _ I19 J19 ⟨v19, rfl, hc19⟩
                  rw [hc19] at hq
                  dsimp only at hq
                  refine pq_s hB 2 (pc' := 32) (L' := [(2, .int v19), (3, .int (252 + (6 * x2))), (0, .ref 185)]) (st' := []) (I' := I19) (J' := J19) (by with_unfolding_all rfl) ?_
                  refine pq_perm (L := [(0, .ref 185), (2, .int v19)]) (leqn_of ⟨rfl, rfl, trivial⟩ ⟨rfl, rfl, trivial⟩ ⟨rfl, rfl, rfl, trivial⟩) ?_
                  exact f345_185_l32_pq hB k (by omega) b m (by omega) (by omega) hq hx0 hx1 hx2
          · rw [h6, cond_false] at hq
            refine pq_s hB 9 (pc' := 122) (L' := [(3, .int (252 + (6 * x2))), (0, .ref 185), (2, .int x2)]) (st' := [.int 26, .int (I5 186 ((252 + (6 * x2))).toNatClampNeg)]) (I' := (tup I5 201 0 ((I 201 0) + 0))) (J' := J5) (by with_unfolding_all rfl) ?_
            refine pq_icn hB rfl (fun h20 => ?_) (fun h20 => ?_)
            · rw [h20, cond_true] at hq
              refine pq_s hB 6 (pc' := 151) (L' := [(3, .int (252 + (6 * x2))), (0, .ref 185), (2, .int x2)]) (st' := [.int 2500, .int (I5 186 ((252 + (6 * x2))).toNatClampNeg), .ref 185]) (I' := (tup I5 201 0 ((I 201 0) + 0))) (J' := J5) (by with_unfolding_all rfl) ?_
              refine pq_icn hB rfl (fun h21 => ?_) (fun h21 => ?_)
              · rw [h21, cond_true] at hq
                refine pq_s hB 3 (pc' := 178) (L' := [(3, .int (252 + (6 * x2))), (0, .ref 185), (2, .int x2)]) (st' := [.int (x2 + 1), .ref 185]) (I' := (tup I5 201 0 ((I 201 0) + 0))) (J' := J5) (by with_unfolding_all rfl) ?_
                refine pq_1 rfl rfl rfl rfl (pq_le hle (f344_185_pq hB rfl)) ?_
                rintro _ I22 J22 ⟨v22, rfl, hc22⟩
                rw [hc22] at hq
                dsimp only at hq
                refine pq_s hB 2 (pc' := 32) (L' := [(2, .int v22), (3, .int (252 + (6 * x2))), (0, .ref 185)]) (st' := []) (I' := I22) (J' := J22) (by with_unfolding_all rfl) ?_
                refine pq_perm (L := [(0, .ref 185), (2, .int v22)]) (leqn_of ⟨rfl, rfl, trivial⟩ ⟨rfl, rfl, trivial⟩ ⟨rfl, rfl, rfl, trivial⟩) ?_
                exact f345_185_l32_pq hB k (by omega) b m (by omega) (by omega) hq hx0 hx1 hx2
              · rw [h21, cond_false] at hq
                refine pq_s hB 2 (pc' := 156) (L' := [(3, .int (252 + (6 * x2))), (0, .ref 185), (2, .int x2)]) (st' := [.int (252 + (6 * x2)), .ref 185, .ref 185]) (I' := (tup I5 201 0 ((I 201 0) + 0))) (J' := J5) (by with_unfolding_all rfl) ?_
                refine pq_1 rfl rfl rfl rfl (pq_le hle (f343_185_pq hB rfl)) ?_
                rintro _ I23 J23 ⟨v23, rfl, hc23⟩
                rw [hc23] at hq
                dsimp only at hq
                refine pq_ifn hB rfl (fun h24 => ?_) (fun h24 => ?_)
                · rw [h24, cond_true] at hq
                  refine pq_s hB 3 (pc' := 178) (L' := [(3, .int (252 + (6 * x2))), (0, .ref 185), (2, .int x2)]) (st' := [.int (x2 + 1), .ref 185]) (I' := I23) (J' := J23) (by with_unfolding_all rfl) ?_
                  refine pq_1 rfl rfl rfl rfl (pq_le hle (f344_185_pq hB rfl)) ?_
                  rintro _ I25 J25 ⟨v25, rfl, hc25⟩
                  rw [hc25] at hq
                  dsimp only at hq
                  refine pq_s hB 2 (pc' := 32) (L' := [(2, .int v25), (3, .int (252 + (6 * x2))), (0, .ref 185)]) (st' := []) (I' := I25) (J' := J25) (by with_unfolding_all rfl) ?_
                  refine pq_perm (L := [(0, .ref 185), (2, .int v25)]) (leqn_of ⟨rfl, rfl, trivial⟩ ⟨rfl, rfl, trivial⟩ ⟨rfl, rfl, rfl, trivial⟩) ?_
                  exact f345_185_l32_pq hB k (by omega) b m (by omega) (by omega) hq hx0 hx1 hx2
                · rw [h24, cond_false] at hq
                  refine pq_s hB 9 (pc' := 178) (L' := [(3, .int (252 + (6 * x2))), (0, .ref 185), (2, .int x2)]) (st' := [.int ((I23 186 (((252 + (6 * x2)) + 4)).toNatClampNeg) + 1), .ref 185]) (I' := I23) (J' := J23) (by with_unfolding_all rfl) ?_
                  refine pq_1 rfl rfl rfl rfl (pq_le hle (f344_185_pq hB rfl)) ?_
                  rintro _ I26 J26 ⟨v26, rfl, hc26⟩
                  rw [hc26] at hq
                  dsimp only at hq
                  refine pq_s hB 2 (pc' := 32) (L' := [(2, .int v26), (3, .int (252 + (6 * x2))), (0, .ref 185)]) (st' := []) (I' := I26) (J' := J26) (by with_unfolding_all rfl) ?_
                  refine pq_perm (L := [(0, .ref 185), (2, .int v26)]) (leqn_of ⟨rfl, rfl, trivial⟩ ⟨rfl, rfl, trivial⟩ ⟨rfl, rfl, rfl, trivial⟩) ?_
                  exact f345_185_l32_pq hB k (by omega) b m (by omega) (by omega) hq hx0 hx1 hx2
            · rw [h20, cond_false] at hq
              refine pq_s hB 18 (pc' := 151) (L' := [(3, .int (252 + (6 * x2))), (0, .ref 185), (2, .int x2)]) (st' := [.int 2500, .int (I5 186 ((252 + (6 * x2))).toNatClampNeg), .ref 185]) (I' := (tup (tup I5 201 0 ((I 201 0) + 0)) 200 ((x2).toNatClampNeg) ((I5 186 (((252 + (6 * x2)) + 1)).toNatClampNeg) - 1))) (J' := J5) (by with_unfolding_all rfl) ?_
              refine pq_icn hB rfl (fun h27 => ?_) (fun h27 => ?_)
              · rw [h27, cond_true] at hq
                refine pq_s hB 3 (pc' := 178) (L' := [(3, .int (252 + (6 * x2))), (0, .ref 185), (2, .int x2)]) (st' := [.int (x2 + 1), .ref 185]) (I' := (tup (tup I5 201 0 ((I 201 0) + 0)) 200 ((x2).toNatClampNeg) ((I5 186 (((252 + (6 * x2)) + 1)).toNatClampNeg) - 1))) (J' := J5) (by with_unfolding_all rfl) ?_
                refine pq_1 rfl rfl rfl rfl (pq_le hle (f344_185_pq hB rfl)) ?_
                rintro _ I28 J28 ⟨v28, rfl, hc28⟩
                rw [hc28] at hq
                dsimp only at hq
                refine pq_s hB 2 (pc' := 32) (L' := [(2, .int v28), (3, .int (252 + (6 * x2))), (0, .ref 185)]) (st' := []) (I' := I28) (J' := J28) (by with_unfolding_all rfl) ?_
                refine pq_perm (L := [(0, .ref 185), (2, .int v28)]) (leqn_of ⟨rfl, rfl, trivial⟩ ⟨rfl, rfl, trivial⟩ ⟨rfl, rfl, rfl, trivial⟩) ?_
                exact f345_185_l32_pq hB k (by omega) b m (by omega) (by omega) hq hx0 hx1 hx2
              · rw [h27, cond_false] at hq
                refine pq_s hB 2 (pc' := 156) (L' := [(3, .int (252 + (6 * x2))), (0, .ref 185), (2, .int x2)]) (st' := [.int (252 + (6 * x2)), .ref 185, .ref 185]) (I' := (tup (tup I5 201 0 ((I 201 0) + 0)) 200 ((x2).toNatClampNeg) ((I5 186 (((252 + (6 * x2)) + 1)).toNatClampNeg) - 1))) (J' := J5) (by with_unfolding_all rfl) ?_
                refine pq_1 rfl rfl rfl rfl (pq_le hle (f343_185_pq hB rfl)) ?_
                rintro _ I29 J29 ⟨v29, rfl, hc29⟩
                rw [hc29] at hq
                dsimp only at hq
                refine pq_ifn hB rfl (fun h30 => ?_) (fun h30 => ?_)
                · rw [h30, cond_true] at hq
                  refine pq_s hB 3 (pc' := 178) (L' := [(3, .int (252 + (6 * x2))), (0, .ref 185), (2, .int x2)]) (st' := [.int (x2 + 1), .ref 185]) (I' := I29) (J' := J29) (by with_unfolding_all rfl) ?_
                  refine pq_1 rfl rfl rfl rfl (pq_le hle (f344_185_pq hB rfl)) ?_
                  rintro _ I31 J31 ⟨v31, rfl, hc31⟩
                  rw [hc31] at hq
                  dsimp only at hq
                  refine pq_s hB 2 (pc' := 32) (L' := [(2, .int v31), (3, .int (252 + (6 * x2))), (0, .ref 185)]) (st' := []) (I' := I31) (J' := J31) (by with_unfolding_all rfl) ?_
                  refine pq_perm (L := [(0, .ref 185), (2, .int v31)]) (leqn_of ⟨rfl, rfl, trivial⟩ ⟨rfl, rfl, trivial⟩ ⟨rfl, rfl, rfl, trivial⟩) ?_
                  exact f345_185_l32_pq hB k (by omega) b m (by omega) (by omega) hq hx0 hx1 hx2
                · rw [h30, cond_false] at hq
                  refine pq_s hB 9 (pc' := 178) (L' := [(3, .int (252 + (6 * x2))), (0, .ref 185), (2, .int x2)]) (st' := [.int ((I29 186 (((252 + (6 * x2)) + 4)).toNatClampNeg) + 1), .ref 185]) (I' := I29) (J' := J29) (by with_unfolding_all rfl) ?_
                  refine pq_1 rfl rfl rfl rfl (pq_le hle (f344_185_pq hB rfl)) ?_
                  rintro _ I32 J32 ⟨v32, rfl, hc32⟩
                  rw [hc32] at hq
                  dsimp only at hq
                  refine pq_s hB 2 (pc' := 32) (L' := [(2, .int v32), (3, .int (252 + (6 * x2))), (0, .ref 185)]) (st' := []) (I' := I32) (J' := J32) (by with_unfolding_all rfl) ?_
                  refine pq_perm (L := [(0, .ref 185), (2, .int v32)]) (leqn_of ⟨rfl, rfl, trivial⟩ ⟨rfl, rfl, trivial⟩ ⟨rfl, rfl, rfl, trivial⟩) ?_
                  exact f345_185_l32_pq hB k (by omega) b m (by omega) (by omega) hq hx0 hx1 hx2
        · rw [h4, cond_false] at hq
          refine pq_perm (L := [(0, .ref 185), (2, .int x2)]) (leqn_of ⟨rfl, rfl, trivial⟩ ⟨rfl, rfl, trivial⟩ ⟨rfl, rfl, rfl, trivial⟩) ?_
          exact pq_le (by omega) (hx1 hq.symm)
      · rw [h3, cond_false] at hq
        exact pq_le (by omega) (hx2 hq.symm)
-- LPModel.lives
def f345_185 (N : Nat) (I : tI) (J : tJ) (a0 : Int32) : Option (Unit × tI × tJ) :=
  (match f345_185_l12 N N (tup (tup I 185 30 a0) 185 31 0) J 0 with | none => none | some (y1_2, I1, J1) => (match f345_185_l32 N N I1 J1 0 with | none => none | some (k2, y2_2, I2, J2) => bif Nat.beq k2 0 then (some ((), I2, J2)) else bif Nat.beq k2 1 then (some ((), I2, J2)) else some ((), (tup I2 201 4 1), J2)))
set_option maxRecDepth 100000 in
theorem f345_185_pq {sc : List Int32} {B : xM} {N : Nat} {I : tI} {J : tJ} {a0 : Int32} (hB : kB pT B) : ∀ {X : Option (Unit × tI × tJ)}, f345_185 N I J a0 = X → pq sc B N (xt_345, 4, 0) 0 [(0, .ref 185), (1, .int a0)] [] I J (fun v I1 J1 => v = none ∧ X = some ((), I1, J1)) := by
  intro X hq
  unfold f345_185 at hq
  have hle : N ≤ N := Nat.le_refl N
  refine pq_s hB 8 (pc' := 12) (L' := [(2, .int 0), (0, .ref 185), (1, .int a0)]) (st' := []) (I' := (tup (tup I 185 30 a0) 185 31 0)) (J' := J) (by with_unfolding_all rfl) ?_
  refine pq_perm (L := [(0, .ref 185), (2, .int 0)]) (leqn_of ⟨rfl, rfl, trivial⟩ ⟨rfl, rfl, trivial⟩ ⟨rfl, rfl, rfl, trivial⟩) ?_
  refine f345_185_l12_pq hB N (Nat.le_refl N) N N hle (Nat.le_refl N) rfl ?_
  intro y1_2 I1 J1 hc1
  rw [hc1] at hq
  dsimp only at hq
  refine pq_s hB 2 (pc' := 32) (L' := [(2, .int 0), (0, .ref 185)]) (st' := []) (I' := I1) (J' := J1) (by with_unfolding_all rfl) ?_
  refine pq_perm (L := [(0, .ref 185), (2, .int 0)]) (leqn_of ⟨rfl, rfl, trivial⟩ ⟨rfl, rfl, trivial⟩ ⟨rfl, rfl, trivial⟩) ?_
  refine f345_185_l32_pq hB N (Nat.le_refl N) N N hle (Nat.le_refl N) rfl ?_ ?_ ?_
  ·
    intro y2_2 I2 J2 hc2
    rw [hc2] at hq
    dsimp only at hq
    rw [show Nat.beq 0 0 = true from rfl, cond_true] at hq
    subst hq
    exact pq_2 (v := none) rfl rfl (by with_unfolding_all rfl) ⟨rfl, rfl⟩
  ·
      intro y2_2 I2 J2 hc2
      rw [hc2] at hq
      dsimp only at hq
      rw [show Nat.beq 1 0 = false from rfl, cond_false] at hq
      rw [show Nat.beq 1 1 = true from rfl, cond_true] at hq
      subst hq
      exact pq_2 (v := none) rfl rfl (by with_unfolding_all rfl) ⟨rfl, rfl⟩
  ·
      intro y2_2 I2 J2 hc2
      rw [hc2] at hq
      dsimp only at hq
      rw [show Nat.beq 2 0 = false from rfl, cond_false] at hq
      rw [show Nat.beq 2 1 = false from rfl, cond_false] at hq
      refine pq_s hB 5 (pc' := 60) (L' := [(0, .ref 185), (2, .int y2_2)]) (st' := []) (I' := (tup I2 201 4 1)) (J' := J2) (by with_unfolding_all rfl) ?_
      subst hq
      exact pq_2 (v := none) rfl rfl (by with_unfolding_all rfl) ⟨rfl, rfl⟩
-- LPModel.live, the loop at 43, to [66]
def f346_185_l43 (N : Nat) : Nat → tI → tJ → Int32 → Option (Int32 × tI × tJ)
  | 0, _, _, _ => none
  | k + 1, I, J, x2 =>
    bif xcmp .ge x2 5 then some (x2, I, J) else f346_185_l43 N k (tup I 202 ((x2).toNatClampNeg) (I 201 (x2).toNatClampNeg)) J (x2 + 1)
set_option maxRecDepth 100000 in
theorem f346_185_l43_pq {sc : List Int32} {B : xM} {N : Nat} {P : Option Value → tI → tJ → Prop} (hB : kB pT B) : ∀ (k : Nat), k ≤ N → ∀ (b m : Nat), b ≤ k → b ≤ m → ∀ {I : tI} {J : tJ} {x2 : Int32} {Y : Option (Int32 × tI × tJ)}, f346_185_l43 N k I J x2 = Y → (∀ {y2 : Int32} {I1 : tI} {J1 : tJ}, Y = some (y2, I1, J1) → pq sc B m (xt_346, 3, 1) 66 [(0, .ref 185), (2, .int y2)] [] I1 J1 P) → pq sc B b (xt_346, 3, 1) 43 [(0, .ref 185), (2, .int x2)] [] I J P
  | 0, _, b, _, hb, _, _, _, _, _, _, _ => by
    have e : b = 0 := by omega
    subst e
    exact pq_zero
  | _ + 1, _, 0, _, _, _, _, _, _, _, _, _ => pq_zero
  | k + 1, hk, b + 1, m, hb, hm, I, J, x2, Y, hq, hx0 => by
    unfold f346_185_l43 at hq
    have hle : b ≤ N := by omega
    refine pq_s1 hB 1 (pc' := 45) (L' := [(0, .ref 185), (2, .int x2)]) (st' := [.int 5, .int x2]) (I' := I) (J' := J) (by with_unfolding_all rfl) ?_
    refine pq_icn hB rfl (fun h5 => ?_) (fun h5 => ?_)
    · rw [h5, cond_true] at hq
      exact pq_le (by omega) (hx0 hq.symm)
    · rw [h5, cond_false] at hq
      refine pq_s hB 10 (pc' := 43) (L' := [(2, .int (x2 + 1)), (0, .ref 185)]) (st' := []) (I' := (tup I 202 ((x2).toNatClampNeg) (I 201 (x2).toNatClampNeg))) (J' := J) (by with_unfolding_all rfl) ?_
      refine pq_perm (L := [(0, .ref 185), (2, .int (x2 + 1))]) (leqn_of ⟨rfl, rfl, trivial⟩ ⟨rfl, rfl, trivial⟩ ⟨rfl, rfl, trivial⟩) ?_
      exact f346_185_l43_pq hB k (by omega) b m (by omega) (by omega) hq hx0
-- LPModel.live
def f346_185 (N : Nat) (I : tI) (J : tJ) (a0 : Int32) : Option (Int32 × tI × tJ) :=
  (match f216 I J ((a0).toInt64) 0 9999 with | (v1, I1, J1) => bif xcmp .ne v1 0 then (bif xcmp .ne (I1 186 8) (-1) then (match f345_185 N I1 J1 a0 with | none => none | some (_, I4, J4) => (match f346_185_l43 N N I4 J4 0 with | none => none | some (y5_2, I5, J5) => (match f206_185 (tup I5 185 35 1) J5 (I5 185 31) with | (v6, I6, J6) => some (v6, I6, J6)))) else (match f205_185 I1 J1 6 with | (v7, I7, J7) => some (v7, I7, J7))) else (match f205_185 I1 J1 1 with | (v8, I8, J8) => some (v8, I8, J8)))
set_option maxRecDepth 100000 in
theorem f346_185_pq {sc : List Int32} {B : xM} {N : Nat} {I : tI} {J : tJ} {a0 : Int32} (hB : kB pT B) : ∀ {X : Option (Int32 × tI × tJ)}, f346_185 N I J a0 = X → pq sc B N (xt_346, 3, 1) 0 [(0, .ref 185), (1, .int a0)] [] I J (fun v I1 J1 => ∃ a, v = some (.int a) ∧ X = some (a, I1, J1)) := by
  intro X hq
  unfold f346_185 at hq
  have hle : N ≤ N := Nat.le_refl N
  refine pq_s hB 4 (pc' := 6) (L' := [(0, .ref 185), (1, .int a0)]) (st' := [.long 9999, .long 0, .long (a0).toInt64]) (I' := I) (J' := J) (by with_unfolding_all rfl) ?_
  generalize hc1 : f216 I J ((a0).toInt64) 0 9999 = q1 at hq
  obtain ⟨v1, _, _⟩ := q1
  dsimp only at hq
  refine pq_1 rfl rfl rfl rfl (f216_pq hB hc1) ?_
  rintro _ I1 J1 ⟨rfl, rfl, rfl⟩
  refine pq_ifn hB rfl (fun h2 => ?_) (fun h2 => ?_)
  · rw [h2, cond_true] at hq
    refine pq_s hB 5 (pc' := 26) (L' := [(0, .ref 185), (1, .int a0)]) (st' := [.int (-1), .int (I1 186 8)]) (I' := I1) (J' := J1) (by with_unfolding_all rfl) ?_
    refine pq_icn hB rfl (fun h3 => ?_) (fun h3 => ?_)
    · rw [h3, cond_true] at hq
      refine pq_s hB 2 (pc' := 38) (L' := [(0, .ref 185), (1, .int a0)]) (st' := [.int a0, .ref 185]) (I' := I1) (J' := J1) (by with_unfolding_all rfl) ?_
      refine pq_1 rfl rfl rfl rfl (pq_le hle (f345_185_pq hB rfl)) ?_
      rintro _ I4 J4 ⟨rfl, hc4⟩
      rw [hc4] at hq
      dsimp only at hq
      refine pq_s hB 2 (pc' := 43) (L' := [(2, .int 0), (0, .ref 185), (1, .int a0)]) (st' := []) (I' := I4) (J' := J4) (by with_unfolding_all rfl) ?_
      refine pq_perm (L := [(0, .ref 185), (2, .int 0)]) (leqn_of ⟨rfl, rfl, trivial⟩ ⟨rfl, rfl, trivial⟩ ⟨rfl, rfl, rfl, trivial⟩) ?_
      refine f346_185_l43_pq hB N (Nat.le_refl N) N N hle (Nat.le_refl N) rfl ?_
      intro y5_2 I5 J5 hc5
      rw [hc5] at hq
      dsimp only at hq
      refine pq_s hB 6 (pc' := 76) (L' := [(0, .ref 185), (2, .int y5_2)]) (st' := [.int (I5 185 31), .ref 185]) (I' := (tup I5 185 35 1)) (J' := J5) (by with_unfolding_all rfl) ?_
      generalize hc6 : f206_185 (tup I5 185 35 1) J5 (I5 185 31) = q6 at hq
      obtain ⟨v6, _, _⟩ := q6
      dsimp only at hq
      refine pq_1 rfl rfl rfl rfl (f206_185_pq hB hc6) ?_
      rintro _ I6 J6 ⟨rfl, rfl, rfl⟩
      subst hq
      exact pq_2i (x := v6) rfl ⟨_, rfl, rfl⟩
    · rw [h3, cond_false] at hq
      refine pq_s hB 2 (pc' := 32) (L' := [(0, .ref 185), (1, .int a0)]) (st' := [.int 6, .ref 185]) (I' := I1) (J' := J1) (by with_unfolding_all rfl) ?_
      generalize hc7 : f205_185 I1 J1 6 = q7 at hq
      obtain ⟨v7, _, _⟩ := q7
      dsimp only at hq
      refine pq_1 rfl rfl rfl rfl (f205_185_pq hB hc7) ?_
      rintro _ I7 J7 ⟨rfl, rfl, rfl⟩
      subst hq
      exact pq_2i (x := v7) rfl ⟨_, rfl, rfl⟩
  · rw [h2, cond_false] at hq
    refine pq_s hB 2 (pc' := 14) (L' := [(0, .ref 185), (1, .int a0)]) (st' := [.int 1, .ref 185]) (I' := I1) (J' := J1) (by with_unfolding_all rfl) ?_
    generalize hc8 : f205_185 I1 J1 1 = q8 at hq
    obtain ⟨v8, _, _⟩ := q8
    dsimp only at hq
    refine pq_1 rfl rfl rfl rfl (f205_185_pq hB hc8) ?_
    rintro _ I8 J8 ⟨rfl, rfl, rfl⟩
    subst hq
    exact pq_2i (x := v8) rfl ⟨_, rfl, rfl⟩
-- LP$Sights.shownBy, the loop at 4, to [33]
def f92_21_12_l4 (N : Nat) : Nat → tI → tJ → Int32 → Int32 → Option (Int32 × Int32 × tI × tJ)
  | 0, _, _, _, _ => none
  | k + 1, I, J, x2, x3 =>
    bif xcmp .ge x3 (I 21 0) then some (x2, x3, I, J) else (match f93_21_12 N I J x3 with | none => none | some (v2, I2, J2) => bif xcmp .eq v2 0 then f92_21_12_l4 N k I2 J2 x2 (x3 + 1) else f92_21_12_l4 N k I2 J2 (x2 ||| (1 <<< (x3 &&& 31))) (x3 + 1))
set_option maxRecDepth 100000 in
theorem f92_21_12_l4_pq {sc : List Int32} {B : xM} {N : Nat} {P : Option Value → tI → tJ → Prop} (hB : kB pT B) : ∀ (k : Nat), k ≤ N → ∀ (b m : Nat), b ≤ k → b ≤ m → ∀ {I : tI} {J : tJ} {x2 : Int32} {x3 : Int32} {Y : Option (Int32 × Int32 × tI × tJ)}, f92_21_12_l4 N k I J x2 x3 = Y → (∀ {y2 : Int32} {y3 : Int32} {I1 : tI} {J1 : tJ}, Y = some (y2, y3, I1, J1) → pq sc B m (xt_92, 4, 1) 33 [(0, .ref 21), (1, .ref 12), (2, .int y2), (3, .int y3)] [] I1 J1 P) → pq sc B b (xt_92, 4, 1) 4 [(0, .ref 21), (1, .ref 12), (2, .int x2), (3, .int x3)] [] I J P
  | 0, _, b, _, hb, _, _, _, _, _, _, _, _ => by
    have e : b = 0 := by omega
    subst e
    exact pq_zero
  | _ + 1, _, 0, _, _, _, _, _, _, _, _, _, _ => pq_zero
  | k + 1, hk, b + 1, m, hb, hm, I, J, x2, x3, Y, hq, hx0 => by
    unfold f92_21_12_l4 at hq
    have hle : b ≤ N := by omega
    refine pq_s1 hB 2 (pc' := 9) (L' := [(0, .ref 21), (1, .ref 12), (2, .int x2), (3, .int x3)]) (st' := [.int (I 21 0), .int x3]) (I' := I) (J' := J) (by with_unfolding_all rfl) ?_
    refine pq_icn hB rfl (fun h1 => ?_) (fun h1 => ?_)
    · rw [h1, cond_true] at hq
      exact pq_le (by omega) (hx0 hq.symm)
    · rw [h1, cond_false] at hq
      refine pq_s hB 3 (pc' := 15) (L' := [(0, .ref 21), (1, .ref 12), (2, .int x2), (3, .int x3)]) (st' := [.ref 12, .int x3, .ref 21]) (I' := I) (J' := J) (by with_unfolding_all rfl) ?_
      refine pq_1 rfl rfl rfl rfl (pq_le hle (f93_21_12_pq hB rfl)) ?_
      rintro _ I2 J2 ⟨v2, rfl, hc2⟩
      rw [hc2] at hq
      dsimp only at hq
      refine pq_ifn hB rfl (fun h3 => ?_) (fun h3 => ?_)
      · rw [h3, cond_true] at hq
        refine pq_s hB 2 (pc' := 4) (L' := [(3, .int (x3 + 1)), (0, .ref 21), (1, .ref 12), (2, .int x2)]) (st' := []) (I' := I2) (J' := J2) (by with_unfolding_all rfl) ?_
        refine pq_perm (L := [(0, .ref 21), (1, .ref 12), (2, .int x2), (3, .int (x3 + 1))]) (leqn_of ⟨rfl, rfl, rfl, rfl, trivial⟩ ⟨rfl, rfl, rfl, rfl, trivial⟩ ⟨rfl, rfl, rfl, rfl, trivial⟩) ?_
        exact f92_21_12_l4_pq hB k (by omega) b m (by omega) (by omega) hq hx0
      · rw [h3, cond_false] at hq
        refine pq_s hB 8 (pc' := 4) (L' := [(3, .int (x3 + 1)), (2, .int (x2 ||| (1 <<< (x3 &&& 31)))), (0, .ref 21), (1, .ref 12)]) (st' := []) (I' := I2) (J' := J2) (by with_unfolding_all rfl) ?_
        refine pq_perm (L := [(0, .ref 21), (1, .ref 12), (2, .int (x2 ||| (1 <<< (x3 &&& 31)))), (3, .int (x3 + 1))]) (leqn_of ⟨rfl, rfl, rfl, rfl, trivial⟩ ⟨rfl, rfl, rfl, rfl, trivial⟩ ⟨rfl, rfl, rfl, rfl, trivial⟩) ?_
        exact f92_21_12_l4_pq hB k (by omega) b m (by omega) (by omega) hq hx0
-- LP$Sights.shownBy
def f92_21_12 (N : Nat) (I : tI) (J : tJ) : Option (Int32 × tI × tJ) :=
  (match f92_21_12_l4 N N I J 0 0 with | none => none | some (y1_2, y1_3, I1, J1) => some (y1_2, I1, J1))
set_option maxRecDepth 100000 in
theorem f92_21_12_pq {sc : List Int32} {B : xM} {N : Nat} {I : tI} {J : tJ} (hB : kB pT B) : ∀ {X : Option (Int32 × tI × tJ)}, f92_21_12 N I J = X → pq sc B N (xt_92, 4, 1) 0 [(0, .ref 21), (1, .ref 12)] [] I J (fun v I1 J1 => ∃ a, v = some (.int a) ∧ X = some (a, I1, J1)) := by
  intro X hq
  unfold f92_21_12 at hq
  have hle : N ≤ N := Nat.le_refl N
  refine pq_s hB 4 (pc' := 4) (L' := [(3, .int 0), (2, .int 0), (0, .ref 21), (1, .ref 12)]) (st' := []) (I' := I) (J' := J) (by with_unfolding_all rfl) ?_
  refine pq_perm (L := [(0, .ref 21), (1, .ref 12), (2, .int 0), (3, .int 0)]) (leqn_of ⟨rfl, rfl, rfl, rfl, trivial⟩ ⟨rfl, rfl, rfl, rfl, trivial⟩ ⟨rfl, rfl, rfl, rfl, trivial⟩) ?_
  refine f92_21_12_l4_pq hB N (Nat.le_refl N) N N hle (Nat.le_refl N) rfl ?_
  intro y1_2 y1_3 I1 J1 hc1
  rw [hc1] at hq
  dsimp only at hq
  refine pq_s hB 1 (pc' := 34) (L' := [(0, .ref 21), (1, .ref 12), (2, .int y1_2), (3, .int y1_3)]) (st' := [.int y1_2]) (I' := I1) (J' := J1) (by with_unfolding_all rfl) ?_
  subst hq
  exact pq_2i (x := y1_2) rfl ⟨_, rfl, rfl⟩
-- LP.lived
def f195_0 (I : tI) (J : tJ) (a0 : Int32) : Int32 × tI × tJ :=
  (match f127 I J a0 0 4 with | (v1, I1, J1) => bif xcmp .ne v1 0 then (bif xcmp .eq (I1 0 17) 0 then (match f122_0 I1 J1 6 with | (v4, I4, J4) => (v4, I4, J4)) else (match f121_0 I1 J1 (I1 93 (a0).toNatClampNeg) with | (v5, I5, J5) => (v5, I5, J5))) else (match f122_0 I1 J1 1 with | (v6, I6, J6) => (v6, I6, J6)))
set_option maxRecDepth 100000 in
theorem f195_0_pq {sc : List Int32} {B : xM} {n : Nat} {I : tI} {J : tJ} {a0 : Int32} (hB : kB pT B) : ∀ {q : Int32 × tI × tJ}, f195_0 I J a0 = q → pq sc B n (xt_195, 2, 1) 0 [(0, .ref 0), (1, .int a0)] [] I J (fun v I1 J1 => v = some (.int q.1) ∧ I1 = q.2.1 ∧ J1 = q.2.2) := by
  intro q hq
  unfold f195_0 at hq
  refine pq_s hB 3 (pc' := 3) (L' := [(0, .ref 0), (1, .int a0)]) (st' := [.int 4, .int 0, .int a0]) (I' := I) (J' := J) (by with_unfolding_all rfl) ?_
  generalize hc1 : f127 I J a0 0 4 = q1 at hq
  obtain ⟨v1, _, _⟩ := q1
  dsimp only at hq
  refine pq_1 rfl rfl rfl rfl (f127_pq hB hc1) ?_
  rintro _ I1 J1 ⟨rfl, rfl, rfl⟩
  refine pq_ifn hB rfl (fun h2 => ?_) (fun h2 => ?_)
  · rw [h2, cond_true] at hq
    refine pq_s hB 2 (pc' := 19) (L' := [(0, .ref 0), (1, .int a0)]) (st' := [.int (I1 0 17)]) (I' := I1) (J' := J1) (by with_unfolding_all rfl) ?_
    refine pq_ifn hB rfl (fun h3 => ?_) (fun h3 => ?_)
    · rw [h3, cond_true] at hq
      refine pq_s hB 2 (pc' := 38) (L' := [(0, .ref 0), (1, .int a0)]) (st' := [.int 6, .ref 0]) (I' := I1) (J' := J1) (by with_unfolding_all rfl) ?_
      generalize hc4 : f122_0 I1 J1 6 = q4 at hq
      obtain ⟨v4, _, _⟩ := q4
      dsimp only at hq
      refine pq_1 rfl rfl rfl rfl (f122_0_pq hB hc4) ?_
      rintro _ I4 J4 ⟨rfl, rfl, rfl⟩
      subst hq
      exact pq_2i (x := v4) rfl ⟨rfl, rfl, rfl⟩
    · rw [h3, cond_false] at hq
      refine pq_s hB 5 (pc' := 29) (L' := [(0, .ref 0), (1, .int a0)]) (st' := [.int (I1 93 (a0).toNatClampNeg), .ref 0]) (I' := I1) (J' := J1) (by with_unfolding_all rfl) ?_
      generalize hc5 : f121_0 I1 J1 (I1 93 (a0).toNatClampNeg) = q5 at hq
      obtain ⟨v5, _, _⟩ := q5
      dsimp only at hq
      refine pq_1 rfl rfl rfl rfl (f121_0_pq hB hc5) ?_
      rintro _ I5 J5 ⟨rfl, rfl, rfl⟩
      refine pq_s hB 1 (pc' := 41) (L' := [(0, .ref 0), (1, .int a0)]) (st' := [.int v5]) (I' := I5) (J' := J5) (by with_unfolding_all rfl) ?_
      subst hq
      exact pq_2i (x := v5) rfl ⟨rfl, rfl, rfl⟩
  · rw [h2, cond_false] at hq
    refine pq_s hB 2 (pc' := 11) (L' := [(0, .ref 0), (1, .int a0)]) (st' := [.int 1, .ref 0]) (I' := I1) (J' := J1) (by with_unfolding_all rfl) ?_
    generalize hc6 : f122_0 I1 J1 1 = q6 at hq
    obtain ⟨v6, _, _⟩ := q6
    dsimp only at hq
    refine pq_1 rfl rfl rfl rfl (f122_0_pq hB hc6) ?_
    rintro _ I6 J6 ⟨rfl, rfl, rfl⟩
    subst hq
    exact pq_2i (x := v6) rfl ⟨rfl, rfl, rfl⟩
-- LPModel.lived
def f347_185 (I : tI) (J : tJ) (a0 : Int32) : Int32 × tI × tJ :=
  bif xcmp .lt a0 0 then (match f205_185 I J 1 with | (v2, I2, J2) => (v2, I2, J2)) else bif xcmp .le a0 4 then (bif xcmp .eq (I 185 35) 0 then (match f205_185 I J 6 with | (v5, I5, J5) => (v5, I5, J5)) else (match f206_185 I J (I 202 (a0).toNatClampNeg) with | (v6, I6, J6) => (v6, I6, J6))) else (match f205_185 I J 1 with | (v7, I7, J7) => (v7, I7, J7))
set_option maxRecDepth 100000 in
theorem f347_185_pq {sc : List Int32} {B : xM} {n : Nat} {I : tI} {J : tJ} {a0 : Int32} (hB : kB pT B) : ∀ {q : Int32 × tI × tJ}, f347_185 I J a0 = q → pq sc B n (xt_347, 2, 1) 0 [(0, .ref 185), (1, .int a0)] [] I J (fun v I1 J1 => v = some (.int q.1) ∧ I1 = q.2.1 ∧ J1 = q.2.2) := by
  intro q hq
  unfold f347_185 at hq
  refine pq_s hB 1 (pc' := 1) (L' := [(0, .ref 185), (1, .int a0)]) (st' := [.int a0]) (I' := I) (J' := J) (by with_unfolding_all rfl) ?_
  refine pq_ifn hB rfl (fun h1 => ?_) (fun h1 => ?_)
  · rw [h1, cond_true] at hq
    refine pq_s hB 2 (pc' := 11) (L' := [(0, .ref 185), (1, .int a0)]) (st' := [.int 1, .ref 185]) (I' := I) (J' := J) (by with_unfolding_all rfl) ?_
    generalize hc2 : f205_185 I J 1 = q2 at hq
    obtain ⟨v2, _, _⟩ := q2
    dsimp only at hq
    refine pq_1 rfl rfl rfl rfl (f205_185_pq hB hc2) ?_
    rintro _ I2 J2 ⟨rfl, rfl, rfl⟩
    refine pq_s hB 1 (pc' := 43) (L' := [(0, .ref 185), (1, .int a0)]) (st' := [.int v2]) (I' := I2) (J' := J2) (by with_unfolding_all rfl) ?_
    subst hq
    exact pq_2i (x := v2) rfl ⟨rfl, rfl, rfl⟩
  · rw [h1, cond_false] at hq
    refine pq_s hB 2 (pc' := 6) (L' := [(0, .ref 185), (1, .int a0)]) (st' := [.int 4, .int a0]) (I' := I) (J' := J) (by with_unfolding_all rfl) ?_
    refine pq_icn hB rfl (fun h3 => ?_) (fun h3 => ?_)
    · rw [h3, cond_true] at hq
      refine pq_s hB 2 (pc' := 21) (L' := [(0, .ref 185), (1, .int a0)]) (st' := [.int (I 185 35)]) (I' := I) (J' := J) (by with_unfolding_all rfl) ?_
      refine pq_ifn hB rfl (fun h4 => ?_) (fun h4 => ?_)
      · rw [h4, cond_true] at hq
        refine pq_s hB 2 (pc' := 40) (L' := [(0, .ref 185), (1, .int a0)]) (st' := [.int 6, .ref 185]) (I' := I) (J' := J) (by with_unfolding_all rfl) ?_
        generalize hc5 : f205_185 I J 6 = q5 at hq
        obtain ⟨v5, _, _⟩ := q5
        dsimp only at hq
        refine pq_1 rfl rfl rfl rfl (f205_185_pq hB hc5) ?_
        rintro _ I5 J5 ⟨rfl, rfl, rfl⟩
        subst hq
        exact pq_2i (x := v5) rfl ⟨rfl, rfl, rfl⟩
      · rw [h4, cond_false] at hq
        refine pq_s hB 5 (pc' := 31) (L' := [(0, .ref 185), (1, .int a0)]) (st' := [.int (I 202 (a0).toNatClampNeg), .ref 185]) (I' := I) (J' := J) (by with_unfolding_all rfl) ?_
        generalize hc6 : f206_185 I J (I 202 (a0).toNatClampNeg) = q6 at hq
        obtain ⟨v6, _, _⟩ := q6
        dsimp only at hq
        refine pq_1 rfl rfl rfl rfl (f206_185_pq hB hc6) ?_
        rintro _ I6 J6 ⟨rfl, rfl, rfl⟩
        refine pq_s hB 1 (pc' := 43) (L' := [(0, .ref 185), (1, .int a0)]) (st' := [.int v6]) (I' := I6) (J' := J6) (by with_unfolding_all rfl) ?_
        subst hq
        exact pq_2i (x := v6) rfl ⟨rfl, rfl, rfl⟩
    · rw [h3, cond_false] at hq
      refine pq_s hB 2 (pc' := 11) (L' := [(0, .ref 185), (1, .int a0)]) (st' := [.int 1, .ref 185]) (I' := I) (J' := J) (by with_unfolding_all rfl) ?_
      generalize hc7 : f205_185 I J 1 = q7 at hq
      obtain ⟨v7, _, _⟩ := q7
      dsimp only at hq
      refine pq_1 rfl rfl rfl rfl (f205_185_pq hB hc7) ?_
      rintro _ I7 J7 ⟨rfl, rfl, rfl⟩
      refine pq_s hB 1 (pc' := 43) (L' := [(0, .ref 185), (1, .int a0)]) (st' := [.int v7]) (I' := I7) (J' := J7) (by with_unfolding_all rfl) ?_
      subst hq
      exact pq_2i (x := v7) rfl ⟨rfl, rfl, rfl⟩

