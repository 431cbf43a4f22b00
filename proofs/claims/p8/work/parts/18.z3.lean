section YS3
variable {bx : List (Int × Int)} {ty : Nat → Nat → FieldType} {df : Nat → List Value} {sc : List Int32} {sa : List Value} {pc : Nat} {L L' : xL} {st st' : List Value} {M M' : xM} {q : xC}
theorem yrv_f0 (x : Int32) : yrv bx (.float 0) (.int x) := ⟨x, rfl, Or.inl rfl⟩
theorem yrv_d0 (x : Int64) : yrv bx (.double 0) (.long x) := ⟨x, rfl, Or.inl rfl⟩
theorem zl1 {n i : Nat} (h : yl1 n pc i L st M = some q) (hL : yrl bx L L') (hs : yrs bx st st') (hM : yrm bx M M') : ∃ q', xpI n pc i L' st' M' = some q' ∧ yrc bx q q' := by
  unfold yl1 at h
  split at h
  · rename_i v hf
    cases h
    obtain ⟨v', h1, h2⟩ := yrl_find hL hf
    cases h2
    exact ⟨(pc + n, L', .int v :: st', M'), by unfold xpI; rw [h1], rfl, hL, ⟨_, _, rfl, rfl, hs⟩, hM⟩
  · rename_i v hf
    cases h
    obtain ⟨v', h1, h2⟩ := yrl_find hL hf
    obtain ⟨x, rfl, h3⟩ := id h2
    exact ⟨(pc + n, L', .int x :: st', M'), by unfold xpI; rw [h1], rfl, hL, ⟨_, _, rfl, h2, hs⟩, hM⟩
  · cases h
theorem zl2 {n i : Nat} (h : yl2 n pc i L st M = some q) (hL : yrl bx L L') (hs : yrs bx st st') (hM : yrm bx M M') : ∃ q', xpL n pc i L' st' M' = some q' ∧ yrc bx q q' := by
  unfold yl2 at h
  split at h
  · rename_i v hf
    cases h
    obtain ⟨v', h1, h2⟩ := yrl_find hL hf
    cases h2
    exact ⟨(pc + n, L', .long v :: st', M'), by unfold xpL; rw [h1], rfl, hL, ⟨_, _, rfl, rfl, hs⟩, hM⟩
  · rename_i v hf
    cases h
    obtain ⟨v', h1, h2⟩ := yrl_find hL hf
    obtain ⟨x, rfl, h3⟩ := id h2
    exact ⟨(pc + n, L', .long x :: st', M'), by unfold xpL; rw [h1], rfl, hL, ⟨_, _, rfl, h2, hs⟩, hM⟩
  · cases h
theorem zpA {n i : Nat} (h : xpA n pc i L st M = some q) (hL : yrl bx L L') (hs : yrs bx st st') (hM : yrm bx M M') : ∃ q', xpA n pc i L' st' M' = some q' ∧ yrc bx q q' := by
  unfold xpA at h
  split at h
  · rename_i v hf
    cases h
    obtain ⟨v', h1, h2⟩ := yrl_find hL hf
    cases h2
    exact ⟨(pc + n, L', .ref v :: st', M'), by unfold xpA; rw [h1], rfl, hL, ⟨_, _, rfl, rfl, hs⟩, hM⟩
  · rename_i hf
    cases h
    obtain ⟨v', h1, h2⟩ := yrl_find hL hf
    cases h2
    exact ⟨(pc + n, L', .retAddr 0 :: st', M'), by unfold xpA; rw [h1]; rfl, rfl, hL, ⟨_, _, rfl, rfl, hs⟩, hM⟩
  · cases h
theorem zs1 {n i : Nat} (h : ys1 n pc i L st M = some q) (hL : yrl bx L L') (hs : yrs bx st st') (hM : yrm bx M M') : ∃ q', xsI n pc i L' st' M' = some q' ∧ yrc bx q q' := by
  unfold ys1 at h
  split at h
  · cases h
    obtain ⟨v1, s1, rfl, h1, h3⟩ := hs
    cases h1
    exact ⟨_, rfl, rfl, yrl_st1 i hL rfl, h3, hM⟩
  · cases h
    obtain ⟨v1, s1, rfl, h1, h3⟩ := hs
    obtain ⟨x, rfl, h2⟩ := id h1
    exact ⟨_, rfl, rfl, yrl_st1 i hL h1, h3, hM⟩
  · cases h
theorem zs2 {n i : Nat} (h : ys2 n pc i L st M = some q) (hL : yrl bx L L') (hs : yrs bx st st') (hM : yrm bx M M') : ∃ q', xsL n pc i L' st' M' = some q' ∧ yrc bx q q' := by
  unfold ys2 at h
  split at h
  · cases h
    obtain ⟨v1, s1, rfl, h1, h3⟩ := hs
    cases h1
    exact ⟨_, rfl, rfl, yrl_st2 i hL rfl, h3, hM⟩
  · cases h
    obtain ⟨v1, s1, rfl, h1, h3⟩ := hs
    obtain ⟨x, rfl, h2⟩ := id h1
    exact ⟨_, rfl, rfl, yrl_st2 i hL h1, h3, hM⟩
  · cases h
theorem zsA {n i : Nat} (h : xsA n pc i L st M = some q) (hL : yrl bx L L') (hs : yrs bx st st') (hM : yrm bx M M') : ∃ q', xsA n pc i L' st' M' = some q' ∧ yrc bx q q' := by
  unfold xsA at h
  split at h
  · cases h
    obtain ⟨v1, s1, rfl, h1, h3⟩ := hs
    cases h1
    exact ⟨_, rfl, rfl, yrl_st1 i hL rfl, h3, hM⟩
  · cases h
theorem zii {g : Int32 → Int32 → Int32} (h : yii g pc L st M = some q) (hL : yrl bx L L') (hs : yrs bx st st') (hM : yrm bx M M') : ∃ q', xii g pc L' st' M' = some q' ∧ yrc bx q q' := by
  unfold yii at h
  split at h
  · cases h
    obtain ⟨v1, s1, rfl, h1, v2, s2, rfl, h2, h3⟩ := hs
    cases h1; cases h2
    exact ⟨_, rfl, rfl, hL, ⟨_, _, rfl, rfl, h3⟩, hM⟩
  · cases h
    obtain ⟨v1, s1, rfl, ⟨x1, rfl, -⟩, v2, s2, rfl, h2, h3⟩ := hs
    cases h2
    exact ⟨_, rfl, rfl, hL, ⟨_, _, rfl, yrv_f0 _, h3⟩, hM⟩
  · cases h
    obtain ⟨v1, s1, rfl, h1, v2, s2, rfl, ⟨x2, rfl, -⟩, h3⟩ := hs
    cases h1
    exact ⟨_, rfl, rfl, hL, ⟨_, _, rfl, yrv_f0 _, h3⟩, hM⟩
  · cases h
    obtain ⟨v1, s1, rfl, ⟨x1, rfl, -⟩, v2, s2, rfl, ⟨x2, rfl, -⟩, h3⟩ := hs
    exact ⟨_, rfl, rfl, hL, ⟨_, _, rfl, yrv_f0 _, h3⟩, hM⟩
  · cases h
theorem zand (h : yand pc L st M = some q) (hL : yrl bx L L') (hs : yrs bx st st') (hM : yrm bx M M') : ∃ q', xii (fun x y => x &&& y) pc L' st' M' = some q' ∧ yrc bx q q' := by
  unfold yand at h
  split at h
  · rename_i y k r
    cases hc : decide (y = 63) with
    | false => simp [hc] at h
    | true =>
      simp only [hc, cond_true] at h
      cases h
      have hy := of_decide_eq_true hc
      subst hy
      obtain ⟨v1, s1, rfl, h1, v2, s2, rfl, ⟨x, rfl, hx⟩, h3⟩ := hs
      cases h1
      exact ⟨(pc + 1, L', .int (x &&& 63) :: s2, M'), rfl, rfl, hL, ⟨_, _, rfl, by rw [hx]; rfl, h3⟩, hM⟩
  · exact zii h hL hs hM
theorem ynm_ok {lo hi : Int} {x : Int32} (h : -2147483648 ≤ lo → hi ≤ 2147483647 → lo ≤ x.toInt ∧ x.toInt ≤ hi) : yrv bx (ynm bx lo hi) (.int x) := by
  unfold ynm
  cases hc : (decide (-2147483648 ≤ lo) && decide (hi ≤ 2147483647) && (decide ((ybd bx (UInt32.ofNat (yfi bx 0 lo hi)).toNat).1 ≤ lo) && decide (hi ≤ (ybd bx (UInt32.ofNat (yfi bx 0 lo hi)).toNat).2))) with
  | false => exact yrv_f0 x
  | true =>
    simp only [Bool.and_eq_true, decide_eq_true_eq] at hc
    obtain ⟨h1, h2⟩ := h hc.1.1 hc.1.2
    exact ⟨x, rfl, Or.inr ⟨by omega, by omega⟩⟩
theorem zadd_int {x y : Int32} (h1 : -2147483648 ≤ x.toInt + y.toInt) (h2 : x.toInt + y.toInt ≤ 2147483647) : (x + y).toInt = x.toInt + y.toInt := by
  rw [Int32.toInt_add]
  exact Int.bmod_eq_of_le (by omega) (by omega)
theorem zsub_int {x y : Int32} (h1 : -2147483648 ≤ x.toInt - y.toInt) (h2 : x.toInt - y.toInt ≤ 2147483647) : (x - y).toInt = x.toInt - y.toInt := by
  rw [Int32.toInt_sub]
  exact Int.bmod_eq_of_le (by omega) (by omega)
theorem zadd_ok (h : yadd bx pc L st M = some q) (hL : yrl bx L L') (hs : yrs bx st st') (hM : yrm bx M M') : ∃ q', xii (fun x y => x + y) pc L' st' M' = some q' ∧ yrc bx q q' := by
  unfold yadd at h
  split at h
  · rename_i y u r
    obtain ⟨v1, s1, rfl, h1, v2, s2, rfl, ⟨x, rfl, hx⟩, h3⟩ := hs
    cases h1
    refine ⟨(pc + 1, L', .int (x + y) :: s2, M'), rfl, ?_⟩
    cases hb : Nat.beq u.toNat 0 with
    | true =>
      simp only [hb, cond_true] at h
      cases h
      exact ⟨rfl, hL, ⟨_, _, rfl, yrv_f0 _, h3⟩, hM⟩
    | false =>
      simp only [hb, cond_false] at h
      cases h
      rcases hx with hx | hx
      · rw [hx] at hb; cases hb
      · exact ⟨rfl, hL, ⟨_, _, rfl, ynm_ok (fun a b => by rw [zadd_int (by omega) (by omega)]; omega), h3⟩, hM⟩
  · exact zii h hL hs hM
theorem zsub_ok (h : ysub bx pc L st M = some q) (hL : yrl bx L L') (hs : yrs bx st st') (hM : yrm bx M M') : ∃ q', xii (fun x y => x - y) pc L' st' M' = some q' ∧ yrc bx q q' := by
  unfold ysub at h
  split at h
  · rename_i y u r
    obtain ⟨v1, s1, rfl, h1, v2, s2, rfl, ⟨x, rfl, hx⟩, h3⟩ := hs
    cases h1
    refine ⟨(pc + 1, L', .int (x - y) :: s2, M'), rfl, ?_⟩
    cases hb : Nat.beq u.toNat 0 with
    | true =>
      simp only [hb, cond_true] at h
      cases h
      exact ⟨rfl, hL, ⟨_, _, rfl, yrv_f0 _, h3⟩, hM⟩
    | false =>
      simp only [hb, cond_false] at h
      cases h
      rcases hx with hx | hx
      · rw [hx] at hb; cases hb
      · exact ⟨rfl, hL, ⟨_, _, rfl, ynm_ok (fun a b => by rw [zsub_int (by omega) (by omega)]; omega), h3⟩, hM⟩
  · exact zii h hL hs hM
theorem zxii {g : Int32 → Int32 → Int32} (h : xii g pc L st M = some q) (hL : yrl bx L L') (hs : yrs bx st st') (hM : yrm bx M M') : ∃ q', xii g pc L' st' M' = some q' ∧ yrc bx q q' := by
  unfold xii at h
  split at h
  · cases h
    obtain ⟨v1, s1, rfl, h1, v2, s2, rfl, h2, h3⟩ := hs
    cases h1; cases h2
    exact ⟨_, rfl, rfl, hL, ⟨_, _, rfl, rfl, h3⟩, hM⟩
  · cases h
theorem zi {g : Int32 → Int32} (h : yi g pc L st M = some q) (hL : yrl bx L L') (hs : yrs bx st st') (hM : yrm bx M M') : ∃ q', xi g pc L' st' M' = some q' ∧ yrc bx q q' := by
  unfold yi at h
  split at h
  · cases h
    obtain ⟨v1, s1, rfl, h1, h3⟩ := hs
    cases h1
    exact ⟨_, rfl, rfl, hL, ⟨_, _, rfl, rfl, h3⟩, hM⟩
  · cases h
    obtain ⟨v1, s1, rfl, ⟨x1, rfl, -⟩, h3⟩ := hs
    exact ⟨_, rfl, rfl, hL, ⟨_, _, rfl, yrv_f0 _, h3⟩, hM⟩
  · cases h
theorem zxi {g : Int32 → Int32} (h : xi g pc L st M = some q) (hL : yrl bx L L') (hs : yrs bx st st') (hM : yrm bx M M') : ∃ q', xi g pc L' st' M' = some q' ∧ yrc bx q q' := by
  unfold xi at h
  split at h
  · cases h
    obtain ⟨v1, s1, rfl, h1, h3⟩ := hs
    cases h1
    exact ⟨_, rfl, rfl, hL, ⟨_, _, rfl, rfl, h3⟩, hM⟩
  · cases h
theorem zll {g : Int64 → Int64 → Int64} (h : yll g pc L st M = some q) (hL : yrl bx L L') (hs : yrs bx st st') (hM : yrm bx M M') : ∃ q', xll g pc L' st' M' = some q' ∧ yrc bx q q' := by
  unfold yll at h
  split at h
  · cases h
    obtain ⟨v1, s1, rfl, h1, v2, s2, rfl, h2, h3⟩ := hs
    cases h1; cases h2
    exact ⟨_, rfl, rfl, hL, ⟨_, _, rfl, rfl, h3⟩, hM⟩
  · cases h
    obtain ⟨v1, s1, rfl, ⟨x1, rfl, -⟩, v2, s2, rfl, h2, h3⟩ := hs
    cases h2
    exact ⟨_, rfl, rfl, hL, ⟨_, _, rfl, yrv_d0 _, h3⟩, hM⟩
  · cases h
    obtain ⟨v1, s1, rfl, h1, v2, s2, rfl, ⟨x2, rfl, -⟩, h3⟩ := hs
    cases h1
    exact ⟨_, rfl, rfl, hL, ⟨_, _, rfl, yrv_d0 _, h3⟩, hM⟩
  · cases h
    obtain ⟨v1, s1, rfl, ⟨x1, rfl, -⟩, v2, s2, rfl, ⟨x2, rfl, -⟩, h3⟩ := hs
    exact ⟨_, rfl, rfl, hL, ⟨_, _, rfl, yrv_d0 _, h3⟩, hM⟩
  · cases h
theorem zxll {g : Int64 → Int64 → Int64} (h : xll g pc L st M = some q) (hL : yrl bx L L') (hs : yrs bx st st') (hM : yrm bx M M') : ∃ q', xll g pc L' st' M' = some q' ∧ yrc bx q q' := by
  unfold xll at h
  split at h
  · cases h
    obtain ⟨v1, s1, rfl, h1, v2, s2, rfl, h2, h3⟩ := hs
    cases h1; cases h2
    exact ⟨_, rfl, rfl, hL, ⟨_, _, rfl, rfl, h3⟩, hM⟩
  · cases h
theorem zli {g : Int64 → Int32 → Int64} (h : yli g pc L st M = some q) (hL : yrl bx L L') (hs : yrs bx st st') (hM : yrm bx M M') : ∃ q', xli g pc L' st' M' = some q' ∧ yrc bx q q' := by
  unfold yli at h
  split at h
  · cases h
    obtain ⟨v1, s1, rfl, h1, v2, s2, rfl, h2, h3⟩ := hs
    cases h1; cases h2
    exact ⟨_, rfl, rfl, hL, ⟨_, _, rfl, rfl, h3⟩, hM⟩
  · cases h
    obtain ⟨v1, s1, rfl, h1, v2, s2, rfl, ⟨x2, rfl, -⟩, h3⟩ := hs
    cases h1
    exact ⟨_, rfl, rfl, hL, ⟨_, _, rfl, yrv_d0 _, h3⟩, hM⟩
  · cases h
theorem zxli {g : Int64 → Int32 → Int64} (h : xli g pc L st M = some q) (hL : yrl bx L L') (hs : yrs bx st st') (hM : yrm bx M M') : ∃ q', xli g pc L' st' M' = some q' ∧ yrc bx q q' := by
  unfold xli at h
  split at h
  · cases h
    obtain ⟨v1, s1, rfl, h1, v2, s2, rfl, h2, h3⟩ := hs
    cases h1; cases h2
    exact ⟨_, rfl, rfl, hL, ⟨_, _, rfl, rfl, h3⟩, hM⟩
  · cases h
theorem zald {k : Nat} (h : xald k pc L st M = some q) (hL : yrl bx L L') (hs : yrs bx st st') (hM : yrm bx M M') : ∃ q', xald k pc L' st' M' = some q' ∧ yrc bx q q' := by
  unfold xald at h
  split at h
  · split at h
    · rename_i sl hsl
      split at h
      · rename_i i hi
        split at h
        · rename_i v hv
          cases h
          obtain ⟨v1, s1, rfl, h1, v2, s2, rfl, h2, h3⟩ := hs
          cases h1; cases h2
          obtain ⟨sl', g1, g2⟩ := yrm_arr hM hsl
          obtain ⟨v', g3, g4⟩ := yrs_nth g2 hv
          exact ⟨(pc + 1, L', v' :: s2, M'), by unfold xald; dsimp only; rw [g1]; dsimp only; rw [yrs_len g2, hi]; dsimp only; rw [g3], rfl, hL, ⟨_, _, rfl, g4, h3⟩, hM⟩
        · cases h
      · cases h
    · cases h
  · cases h
/-- a store into a row, with what is stored turned alike -/
theorem zast {k : Nat} {g g' : Value → Option Value} (hg : ∀ v w v', g v = some w → yrv bx v v' → ∃ w', g' v' = some w' ∧ yrv bx w w') (h : xast k g pc L st M = some q) (hL : yrl bx L L') (hs : yrs bx st st') (hM : yrm bx M M') : ∃ q', xast k g' pc L' st' M' = some q' ∧ yrc bx q q' := by
  unfold xast at h
  split at h
  · rename_i v j a r
    split at h
    · rename_i w hw
      split at h
      · rename_i sl hsl
        split at h
        · rename_i i hi
          cases h
          obtain ⟨v0, s0, rfl, h0, v1, s1, rfl, h1, v2, s2, rfl, h2, h3⟩ := hs
          cases h1; cases h2
          obtain ⟨w', g5, g6⟩ := hg v w v0 hw h0
          obtain ⟨sl', g1, g2⟩ := yrm_arr hM hsl
          exact ⟨(pc + 1, L', s2, xwr M' a k i sl' w'), by unfold xast; dsimp only; rw [g5]; dsimp only; rw [g1]; dsimp only; rw [yrs_len g2, hi], rfl, hL, h3, yrm_set a hM (yrs_set g6 i g2)⟩
        · cases h
      · cases h
    · cases h
  · cases h
theorem zgI : ∀ v w v', ygI v = some w → yrv bx v v' → ∃ w', xgI v' = some w' ∧ yrv bx w w' := by
  intro v w v' h hv
  cases v <;> simp only [ygI] at h <;> first | (cases h; done) | cases h
  · cases hv; exact ⟨_, rfl, rfl⟩
  · obtain ⟨x, rfl, h1⟩ := id hv; exact ⟨_, rfl, hv⟩
theorem zgB : ∀ v w v', ygB v = some w → yrv bx v v' → ∃ w', xgB v' = some w' ∧ yrv bx w w' := by
  intro v w v' h hv
  cases v <;> simp only [ygB] at h <;> first | (cases h; done) | cases h
  · cases hv; exact ⟨_, rfl, rfl⟩
  · obtain ⟨x, rfl, h1⟩ := id hv; exact ⟨_, rfl, yrv_f0 _⟩
theorem zgL : ∀ v w v', ygL v = some w → yrv bx v v' → ∃ w', xgL v' = some w' ∧ yrv bx w w' := by
  intro v w v' h hv
  cases v <;> simp only [ygL] at h <;> first | (cases h; done) | cases h
  · cases hv; exact ⟨_, rfl, rfl⟩
  · obtain ⟨x, rfl, h1⟩ := id hv; exact ⟨_, rfl, hv⟩
theorem zput {ci k : Nat} (h : xput ty ci k pc L st M = some q) (hL : yrl bx L L') (hs : yrs bx st st') (hM : yrm bx M M') : ∃ q', xput ty ci k pc L' st' M' = some q' ∧ yrc bx q q' := by
  unfold xput at h
  split at h
  · rename_i v a r
    cases hf : xfit (ty ci k) v with
    | false => simp [hf] at h
    | true =>
      simp only [hf, cond_true] at h
      split at h
      · rename_i sl hsl
        cases hlt : Nat.blt k sl.length with
        | false => simp [hlt] at h
        | true =>
          simp only [hlt, cond_true] at h
          cases h
          obtain ⟨v1, s1, rfl, h1, v2, s2, rfl, h2, h3⟩ := hs
          cases h2
          have hv : v1 = v := by
            cases v with
            | float u => exact absurd hf (by cases ty ci k <;> simp [xfit])
            | double u => exact absurd hf (by cases ty ci k <;> simp [xfit])
            | retAddr u => exact absurd hf (by cases ty ci k <;> simp [xfit])
            | _ => exact h1
          subst hv
          obtain ⟨sl', g1, g2⟩ := yrm_arr hM hsl
          exact ⟨(pc + 3, L', s2, xwr M' a ci k sl' v1), by unfold xput; dsimp only; rw [hf]; simp only [cond_true]; rw [g1]; dsimp only; rw [yrs_len g2, hlt]; rfl, rfl, hL, h3, yrm_set a hM (yrs_set h1 k g2)⟩
      · cases h
  · cases h
theorem zget {ci k : Nat} (h : xget ci k pc L st M = some q) (hL : yrl bx L L') (hs : yrs bx st st') (hM : yrm bx M M') : ∃ q', xget ci k pc L' st' M' = some q' ∧ yrc bx q q' := by
  unfold xget at h
  split at h
  · split at h
    · rename_i sl hsl
      split at h
      · rename_i v hv
        cases h
        obtain ⟨v2, s2, rfl, h2, h3⟩ := hs
        cases h2
        obtain ⟨sl', g1, g2⟩ := yrm_arr hM hsl
        obtain ⟨v', g3, g4⟩ := yrs_nth g2 hv
        exact ⟨(pc + 3, L', v' :: s2, M'), by unfold xget; dsimp only; rw [g1]; dsimp only; rw [g3], rfl, hL, ⟨_, _, rfl, g4, h3⟩, hM⟩
      · cases h
    · cases h
  · cases h
theorem zlen {a : Nat} (h : xlen [] pc L (.ref a :: st) M = some q) (hL : yrl bx L L') (hs : yrs bx (.ref a :: st) st') (hM : yrm bx M M') : ∃ q', xlen sc pc L' st' M' = some q' ∧ yrc bx q q' := by
  unfold xlen at h
  dsimp only at h
  split at h
  · rename_i o ho
    cases hk : (Nat.beq o.1 20 || Nat.beq o.1 22) with
    | false => simp [hk] at h
    | true =>
      simp only [hk, cond_true] at h
      cases h
      obtain ⟨v2, s2, rfl, h2, h3⟩ := hs
      cases h2
      obtain ⟨sl', g1, g2⟩ := yrm_nth hM ho
      exact ⟨(pc + 1, L', .int (Int32.ofNat o.2.length) :: s2, M'), by unfold xlen; dsimp only; rw [g1]; dsimp only; rw [hk]; simp only [cond_true]; rw [yrs_len g2], rfl, hL, ⟨_, _, rfl, rfl, h3⟩, hM⟩
  · cases h
theorem zcpy {sl sl' dl dl' : List Value} (h1 : yrs bx sl sl') (h2 : yrs bx dl dl') (sp dp n : Nat) : yrs bx (xcpy sl dl sp dp n) (xcpy sl' dl' sp dp n) := by
  unfold xcpy
  exact yrs_app (yrs_take dp h2) (yrs_app (yrs_take n (yrs_drop sp h1)) (yrs_drop (dp + n) h2))
theorem zacopy {k : Nat} {n dp sp : Int32} {d s : Nat} {r r' : List Value} (h : xacopy k pc L n dp sp d s r M = some q) (hL : yrl bx L L') (hr : yrs bx r r') (hM : yrm bx M M') : ∃ q', xacopy k pc L' n dp sp d s r' M' = some q' ∧ yrc bx q q' := by
  unfold xacopy at h
  split at h
  · rename_i sl hsl
    split at h
    · rename_i dl hdl
      obtain ⟨sl', g1, g2⟩ := yrm_arr hM hsl
      obtain ⟨dl', g3, g4⟩ := yrm_arr hM hdl
      cases hcc : (decide (sp < 0) || decide (dp < 0) || decide (n < 0) || Nat.blt sl.length (sp.toNatClampNeg + n.toNatClampNeg) || Nat.blt dl.length (dp.toNatClampNeg + n.toNatClampNeg)) with
      | true => simp [hcc] at h
      | false =>
        simp only [hcc, cond_false] at h
        cases h
        exact ⟨(pc + 3, L', r', M'.set d (k, xcpy sl' dl' sp.toNatClampNeg dp.toNatClampNeg n.toNatClampNeg)), by unfold xacopy; rw [g1]; dsimp only; rw [g3]; dsimp only; rw [yrs_len g2, yrs_len g4, hcc]; rfl, rfl, hL, hr, yrm_set d hM (zcpy g2 g4 _ _ _)⟩
    · cases h
  · cases h
theorem zno {k : Nat} {n dp sp : Int32} {d s : Nat} {r r' : List Value} (h : xacopy k pc L n dp sp d s r M = none) (hM : yrm bx M M') : xacopy k pc L' n dp sp d s r' M' = none := by
  have back : ∀ {a : Nat} {sl' : List Value}, xarr M' a k = some sl' → ∃ sl, xarr M a k = some sl ∧ sl'.length = sl.length := by
    intro a sl' ha
    have h1 := xarr_eq ha
    have hl : a < M.length := by
      rw [← yrm_len hM]
      exact (List.getElem?_eq_some_iff.mp h1).1
    obtain ⟨o, ho⟩ : ∃ o, xnth M a = some o := ⟨M[a], by rw [xnth_eq]; exact List.getElem?_eq_getElem hl⟩
    obtain ⟨sl2, g1, g2⟩ := yrm_nth hM ho
    rw [xnth_eq, h1] at g1
    obtain ⟨k0, sl0⟩ := o
    simp only [Option.some.injEq, Prod.mk.injEq] at g1
    obtain ⟨rfl, rfl⟩ := g1
    exact ⟨sl0, by unfold xarr; rw [ho]; simp, yrs_len g2⟩
  unfold xacopy at h ⊢
  cases h1 : xarr M' s k with
  | none => rfl
  | some sl' =>
    dsimp only
    cases h2 : xarr M' d k with
    | none => rfl
    | some dl' =>
      dsimp only
      obtain ⟨sl, e1, l1⟩ := back h1
      obtain ⟨dl, e2, l2⟩ := back h2
      rw [e1] at h
      dsimp only at h
      rw [e2] at h
      dsimp only at h
      rw [l1, l2]
      cases hcc : (decide (sp < 0) || decide (dp < 0) || decide (n < 0) || Nat.blt sl.length (sp.toNatClampNeg + n.toNatClampNeg) || Nat.blt dl.length (dp.toNatClampNeg + n.toNatClampNeg)) with
      | true => rfl
      | false =>
        rw [hcc] at h
        cases h
theorem zcopy (h : xcopy pc L st M = some q) (hL : yrl bx L L') (hs : yrs bx st st') (hM : yrm bx M M') : ∃ q', xcopy pc L' st' M' = some q' ∧ yrc bx q q' := by
  unfold xcopy at h
  split at h
  · rename_i n dp d sp s' r
    cases hc8 : xcat8 r with
    | false => simp [hc8] at h
    | true =>
      simp only [hc8, cond_true] at h
      obtain ⟨v1, s1, rfl, h1, v2, s2, rfl, h2, v3, s3, rfl, h3, v4, s4, rfl, h4, v5, s5, rfl, h5, h6⟩ := hs
      cases h1; cases h2; cases h3; cases h4; cases h5
      unfold xcopy
      dsimp only
      rw [yrs_cat8 h6, hc8]
      simp only [cond_true]
      split at h
      · rename_i q' hq
        cases h
        obtain ⟨q2, g1, g2⟩ := zacopy hq hL h6 hM
        exact ⟨q2, by rw [g1], g2⟩
      · rename_i hq
        obtain ⟨q2, g1, g2⟩ := zacopy h hL h6 hM
        exact ⟨q2, by rw [zno hq hM]; exact g1, g2⟩
  · cases h
end YS3
