section YS4
variable {bx : List (Int × Int)} {ty : Nat → Nat → FieldType} {df : Nat → List Value} {sc : List Int32} {sa : List Value} {pc : Nat} {L L' : xL} {st st' : List Value} {M M' : xM} {q : xC}
theorem ylt_ok {v w v' w' : Value} {a b c d : Int} (h : ylt bx v w = some (a, b, c, d)) (hv : yrv bx v v') (hw : yrv bx w w') : ∃ x y : Int32, v' = .int x ∧ w' = .int y ∧ a ≤ x.toInt ∧ x.toInt ≤ b ∧ c ≤ y.toInt ∧ y.toInt ≤ d := by
  unfold ylt at h
  split at h
  · rename_i x u
    cases hb : Nat.beq u.toNat 0 with
    | true => simp [hb] at h
    | false =>
      simp only [hb, cond_false] at h
      cases h
      cases hv
      obtain ⟨y, rfl, h1⟩ := hw
      rcases h1 with h1 | h1
      · rw [h1] at hb; cases hb
      · exact ⟨x, y, rfl, rfl, Int.le_refl _, Int.le_refl _, h1.1, h1.2⟩
  · rename_i u y
    cases hb : Nat.beq u.toNat 0 with
    | true => simp [hb] at h
    | false =>
      simp only [hb, cond_false] at h
      cases h
      cases hw
      obtain ⟨x, rfl, h1⟩ := hv
      rcases h1 with h1 | h1
      · rw [h1] at hb; cases hb
      · exact ⟨x, y, rfl, rfl, h1.1, h1.2, Int.le_refl _, Int.le_refl _⟩
  · cases h
theorem zcmp_lt {x y : Int64} (h : x.toInt < y.toInt) : lg_cmp x y = -1 := by
  unfold lg_cmp
  have h1 : ¬ x > y := by
    intro q
    have := Int64.lt_iff_toInt_lt.mp q
    omega
  have h2 : ¬ x = y := by
    intro q
    subst q
    omega
  rw [if_neg h1, if_neg h2]
theorem zcmp_gt {x y : Int64} (h : y.toInt < x.toInt) : lg_cmp x y = 1 := by
  unfold lg_cmp
  rw [if_pos (Int64.lt_iff_toInt_lt.mpr h)]
theorem zcmp_ge {x y : Int64} (h : y.toInt ≤ x.toInt) : lg_cmp x y = 0 ∨ lg_cmp x y = 1 := by
  rcases Int.lt_or_eq_of_le h with h | h
  · exact Or.inr (zcmp_gt h)
  · have : x = y := Int64.toInt_inj.mp h.symm
    subst this
    left
    unfold lg_cmp
    rw [if_neg (by intro q; have := Int64.lt_iff_toInt_lt.mp q; omega), if_pos rfl]
theorem zcmp_le {x y : Int64} (h : x.toInt ≤ y.toInt) : lg_cmp x y = 0 ∨ lg_cmp x y = -1 := by
  rcases Int.lt_or_eq_of_le h with h | h
  · exact Or.inr (zcmp_lt h)
  · have : x = y := Int64.toInt_inj.mp h
    subst this
    left
    unfold lg_cmp
    rw [if_neg (by intro q; have := Int64.lt_iff_toInt_lt.mp q; omega), if_pos rfl]
theorem zlcmp (hb1 : ybd bx 1 = (0, 1)) (hb2 : ybd bx 2 = (-1, 0)) (h : (match st with
    | .long y :: .long x :: r => some (pc + 1, L, Value.int (lg_cmp x y) :: r, M)
    | .long y :: .double u :: r => bif Nat.beq u.toNat 0 then none else bif decide ((ybd bx u.toNat).2 < y.toInt) then some (pc + 1, L, .int (-1) :: r, M) else bif decide (y.toInt < (ybd bx u.toNat).1) then some (pc + 1, L, .int 1 :: r, M) else bif decide (y.toInt ≤ (ybd bx u.toNat).1) then some (pc + 1, L, .float 1 :: r, M) else bif decide ((ybd bx u.toNat).2 ≤ y.toInt) then some (pc + 1, L, .float 2 :: r, M) else none
    | _ => none) = some q) (hL : yrl bx L L') (hs : yrs bx st st') (hM : yrm bx M M') : ∃ q', (match st' with
    | .long y :: .long x :: r => some (pc + 1, L', Value.int (lg_cmp x y) :: r, M')
    | _ => none) = some q' ∧ yrc bx q q' := by
  split at h
  · cases h
    obtain ⟨v1, s1, rfl, h1, v2, s2, rfl, h2, h3⟩ := hs
    cases h1; cases h2
    exact ⟨_, rfl, rfl, hL, ⟨_, _, rfl, rfl, h3⟩, hM⟩
  · rename_i y u r
    obtain ⟨v1, s1, rfl, h1, v2, s2, rfl, ⟨x, rfl, hx⟩, h3⟩ := hs
    cases h1
    refine ⟨_, rfl, ?_⟩
    cases hb : Nat.beq u.toNat 0 with
    | true => simp [hb] at h
    | false =>
      simp only [hb, cond_false] at h
      rcases hx with hx | ⟨hx1, hx2⟩
      · rw [hx] at hb; cases hb
      · cases c1 : decide ((ybd bx u.toNat).2 < y.toInt) with
        | true =>
          simp only [c1, cond_true] at h
          cases h
          have := of_decide_eq_true c1
          rw [zcmp_lt (by omega)]
          exact ⟨rfl, hL, ⟨_, _, rfl, rfl, h3⟩, hM⟩
        | false =>
          simp only [c1, cond_false] at h
          cases c2 : decide (y.toInt < (ybd bx u.toNat).1) with
          | true =>
            simp only [c2, cond_true] at h
            cases h
            have := of_decide_eq_true c2
            rw [zcmp_gt (by omega)]
            exact ⟨rfl, hL, ⟨_, _, rfl, rfl, h3⟩, hM⟩
          | false =>
            simp only [c2, cond_false] at h
            cases c3 : decide (y.toInt ≤ (ybd bx u.toNat).1) with
            | true =>
              simp only [c3, cond_true] at h
              cases h
              have := of_decide_eq_true c3
              refine ⟨rfl, hL, ⟨_, _, rfl, ⟨_, rfl, Or.inr ?_⟩, h3⟩, hM⟩
              show (ybd bx 1).1 ≤ _ ∧ _ ≤ (ybd bx 1).2
              rw [hb1]
              rcases zcmp_ge (x := x) (y := y) (by omega) with e | e <;> rw [e] <;> decide
            | false =>
              simp only [c3, cond_false] at h
              cases c4 : decide ((ybd bx u.toNat).2 ≤ y.toInt) with
              | true =>
                simp only [c4, cond_true] at h
                cases h
                have := of_decide_eq_true c4
                refine ⟨rfl, hL, ⟨_, _, rfl, ⟨_, rfl, Or.inr ?_⟩, h3⟩, hM⟩
                show (ybd bx 2).1 ≤ _ ∧ _ ≤ (ybd bx 2).2
                rw [hb2]
                rcases zcmp_le (x := x) (y := y) (by omega) with e | e <;> rw [e] <;> decide
              | false =>
                simp only [c4, cond_false] at h
                cases h
  · cases h
theorem ydf_rep {n : Nat} {v : Value} (h : yrv bx v v) : yrs bx (List.replicate n v) (List.replicate n v) := yrs_refl (fun w hw => by rw [List.eq_of_mem_replicate hw]; exact h)
theorem x64 (x : Int32) : x.toInt64.toInt = x.toInt := by
  first | exact Int32.toInt_toInt64 x | simp
theorem u64 (u : UInt32) : u.toUInt64.toNat = u.toNat := by
  first | exact UInt32.toNat_toUInt64 u | simp
theorem ysc_ok {sl : List Value} (h : ysc sa = some sl) (hsa : sa = [.null] ∨ yrs bx sa (sc.map Value.int)) : yrs bx sl (sc.map Value.int) := by
  rcases hsa with rfl | hsa
  · cases h
  · unfold ysc at h
    split at h
    · cases h
    · cases h; exact hsa
set_option maxHeartbeats 4000000 in
theorem ya1_ok {ee : xE} (hb1 : ybd bx 1 = (0, 1)) (hb2 : ybd bx 2 = (-1, 0)) (hdf : ∀ (k : Nat) (v : Value), v ∈ df k → yrv bx v v) (hsa : sa = [.null] ∨ yrs bx sa (sc.map Value.int)) (h : ya1 ty df bx sa ee pc L st M = some q) (hL : yrl bx L L') (hs : yrs bx st st') (hM : yrm bx M M') :
    ∃ q', x1 ty df sc ee pc L' st' M' = some q' ∧ yrc bx q q' := by
  obtain ⟨ins, ea, eb, ez⟩ := ee
  cases ins <;> simp only [ya1, x1] at h ⊢
  case iconst n => cases h; exact ⟨_, rfl, rfl, hL, ⟨_, _, rfl, rfl, hs⟩, hM⟩
  case bipush n => cases h; exact ⟨_, rfl, rfl, hL, ⟨_, _, rfl, rfl, hs⟩, hM⟩
  case sipush n => cases h; exact ⟨_, rfl, rfl, hL, ⟨_, _, rfl, rfl, hs⟩, hM⟩
  case lconst n => cases h; exact ⟨_, rfl, rfl, hL, ⟨_, _, rfl, rfl, hs⟩, hM⟩
  case ldc i =>
    cases hb : Nat.beq ea 0 with
    | false => simp [hb] at h
    | true => simp only [hb, cond_true] at h ⊢; cases h; exact ⟨_, rfl, rfl, hL, ⟨_, _, rfl, rfl, hs⟩, hM⟩
  case ldc_w i =>
    cases hb : Nat.beq ea 0 with
    | false => simp [hb] at h
    | true => simp only [hb, cond_true] at h ⊢; cases h; exact ⟨_, rfl, rfl, hL, ⟨_, _, rfl, rfl, hs⟩, hM⟩
  case ldc2_w i => cases h; exact ⟨_, rfl, rfl, hL, ⟨_, _, rfl, rfl, hs⟩, hM⟩
  case iload i => exact zl1 h hL hs hM
  case iload_n i => exact zl1 h hL hs hM
  case lload i => exact zl2 h hL hs hM
  case lload_n i => exact zl2 h hL hs hM
  case aload i => exact zpA h hL hs hM
  case aload_n i => exact zpA h hL hs hM
  case istore i => exact zs1 h hL hs hM
  case istore_n i => exact zs1 h hL hs hM
  case lstore i => exact zs2 h hL hs hM
  case lstore_n i => exact zs2 h hL hs hM
  case astore i => exact zsA h hL hs hM
  case astore_n i => exact zsA h hL hs hM
  case iinc i n =>
    split at h
    · rename_i v hf
      cases h
      obtain ⟨v', h1, h2⟩ := yrl_find hL hf
      cases h2
      refine ⟨(pc + 3, xst1 L' i (.int (v + Int32.ofInt n)), st', M'), by rw [h1], rfl, yrl_st1 i hL rfl, hs, hM⟩
    · cases h
  case iadd => exact zadd_ok h hL hs hM
  case isub => exact zsub_ok h hL hs hM
  case imul => exact zii h hL hs hM
  case iand => exact zand h hL hs hM
  case ior => exact zii h hL hs hM
  case iushr => exact zii h hL hs hM
  case ixor => exact zxii h hL hs hM
  case ishl => exact zxii h hL hs hM
  case ishr => exact zii h hL hs hM
  case ineg => exact zxi h hL hs hM
  case i2b => exact zi h hL hs hM
  case i2s => exact zxi h hL hs hM
  case ladd => exact zll h hL hs hM
  case lsub => exact zll h hL hs hM
  case land => exact zll h hL hs hM
  case lor => exact zll h hL hs hM
  case lmul => exact zxll h hL hs hM
  case lxor => exact zxll h hL hs hM
  case lshl => exact zli h hL hs hM
  case lshr => exact zxli h hL hs hM
  case lushr => exact zxli h hL hs hM
  case idiv =>
    split at h
    · rename_i y x r
      obtain ⟨v1, s1, rfl, h1, v2, s2, rfl, h2, h3⟩ := hs
      cases h1; cases h2
      cases hc : decide (y = 0) with
      | true => simp [hc] at h
      | false => simp only [hc, cond_false] at h ⊢; cases h; exact ⟨_, rfl, rfl, hL, ⟨_, _, rfl, rfl, h3⟩, hM⟩
    · cases h
  case irem =>
    split at h
    · rename_i y x r
      obtain ⟨v1, s1, rfl, h1, v2, s2, rfl, h2, h3⟩ := hs
      cases h1; cases h2
      cases hc : decide (y = 0) with
      | true => simp [hc] at h
      | false => simp only [hc, cond_false] at h ⊢; cases h; exact ⟨_, rfl, rfl, hL, ⟨_, _, rfl, rfl, h3⟩, hM⟩
    · cases h
  case ldiv =>
    split at h
    · rename_i y x r
      obtain ⟨v1, s1, rfl, h1, v2, s2, rfl, h2, h3⟩ := hs
      cases h1; cases h2
      cases hc : decide (y = 0) with
      | true => simp [hc] at h
      | false => simp only [hc, cond_false] at h ⊢; cases h; exact ⟨_, rfl, rfl, hL, ⟨_, _, rfl, rfl, h3⟩, hM⟩
    · cases h
  case lrem =>
    split at h
    · rename_i y x r
      obtain ⟨v1, s1, rfl, h1, v2, s2, rfl, h2, h3⟩ := hs
      cases h1; cases h2
      cases hc : decide (y = 0) with
      | true => simp [hc] at h
      | false => simp only [hc, cond_false] at h ⊢; cases h; exact ⟨_, rfl, rfl, hL, ⟨_, _, rfl, rfl, h3⟩, hM⟩
    · cases h
  case i2l =>
    split at h
    · cases h
      obtain ⟨v1, s1, rfl, h1, h3⟩ := hs
      cases h1
      exact ⟨_, rfl, rfl, hL, ⟨_, _, rfl, rfl, h3⟩, hM⟩
    · rename_i u r
      cases h
      obtain ⟨v1, s1, rfl, ⟨x, rfl, hx⟩, h3⟩ := hs
      exact ⟨_, rfl, rfl, hL, ⟨_, _, rfl, ⟨_, rfl, by rw [u64, x64]; exact hx⟩, h3⟩, hM⟩
    · cases h
  case l2i =>
    split at h
    · cases h
      obtain ⟨v1, s1, rfl, h1, h3⟩ := hs
      cases h1
      exact ⟨_, rfl, rfl, hL, ⟨_, _, rfl, rfl, h3⟩, hM⟩
    · cases h
  case lcmp => exact zlcmp hb1 hb2 h hL hs hM
  case dup =>
    split at h
    · rename_i v r
      cases hc : Nat.beq (xcat v) 1 with
      | false => simp [hc] at h
      | true =>
        simp only [hc, cond_true] at h
        cases h
        obtain ⟨v1, s1, rfl, h1, h3⟩ := hs
        dsimp only
        rw [yrv_cat h1, hc]
        exact ⟨_, rfl, rfl, hL, ⟨_, _, rfl, h1, _, _, rfl, h1, h3⟩, hM⟩
    · cases h
  case pop =>
    split at h
    · rename_i v r
      cases hc : Nat.beq (xcat v) 1 with
      | false => simp [hc] at h
      | true =>
        simp only [hc, cond_true] at h
        cases h
        obtain ⟨v1, s1, rfl, h1, h3⟩ := hs
        dsimp only
        rw [yrv_cat h1, hc]
        exact ⟨_, rfl, rfl, hL, h3, hM⟩
    · cases h
  case dup2 =>
    split at h
    · rename_i v w r
      obtain ⟨v1, s1, rfl, h1, v2, s2, rfl, h2, h3⟩ := hs
      dsimp only
      rw [yrv_cat h1, yrv_cat h2]
      cases hc : (Nat.beq (xcat v) 1 && Nat.beq (xcat w) 1) with
      | true =>
        simp only [hc, cond_true] at h ⊢
        cases h
        exact ⟨_, rfl, rfl, hL, ⟨_, _, rfl, h1, _, _, rfl, h2, _, _, rfl, h1, _, _, rfl, h2, h3⟩, hM⟩
      | false =>
        simp only [hc, cond_false] at h ⊢
        cases hc2 : Nat.beq (xcat v) 2 with
        | false => simp [hc2] at h
        | true =>
          simp only [hc2, cond_true] at h ⊢
          cases h
          exact ⟨_, rfl, rfl, hL, ⟨_, _, rfl, h1, _, _, rfl, h1, _, _, rfl, h2, h3⟩, hM⟩
    · cases h
  case goto off => cases h; exact ⟨_, rfl, rfl, hL, hs, hM⟩
  case if_icmp cnd off =>
    split at h
    · rename_i y x r
      cases h
      obtain ⟨v1, s1, rfl, h1, v2, s2, rfl, h2, h3⟩ := hs
      cases h1; cases h2
      exact ⟨_, rfl, rfl, hL, h3, hM⟩
    · rename_i w v r _
      obtain ⟨v1, s1, rfl, h1, v2, s2, rfl, h2, h3⟩ := hs
      split at h
      · rename_i q0 hq0
        obtain ⟨a, b, c, d⟩ := q0
        split at h
        · rename_i t ht
          cases h
          obtain ⟨x, y, rfl, rfl, g1, g2, g3, g4⟩ := ylt_ok hq0 h2 h1
          have hx := ydec_ok ht g1 g2 g3 g4
          exact ⟨_, rfl, by rw [hx], hL, h3, hM⟩
        · cases h
      · cases h
    · cases h
  case ifCond cnd off =>
    split at h
    · rename_i x r
      cases h
      obtain ⟨v1, s1, rfl, h1, h3⟩ := hs
      cases h1
      exact ⟨_, rfl, rfl, hL, h3, hM⟩
    · rename_i v r _
      obtain ⟨v1, s1, rfl, h1, h3⟩ := hs
      split at h
      · rename_i q0 hq0
        obtain ⟨a, b, c, d⟩ := q0
        split at h
        · rename_i t ht
          cases h
          obtain ⟨x, y, rfl, hy, g1, g2, g3, g4⟩ := ylt_ok hq0 h1 (rfl : yrv bx (.int 0) (.int 0))
          cases hy
          have hx := ydec_ok ht g1 g2 g3 g4
          exact ⟨_, rfl, by rw [hx], hL, h3, hM⟩
        · cases h
      · cases h
    · cases h
  case tableswitch d lo hi offs =>
    split at h
    · rename_i u r
      obtain ⟨v1, s1, rfl, ⟨x, rfl, hx⟩, h3⟩ := hs
      cases hb : Nat.beq u.toNat 0 with
      | true => simp [hb] at h
      | false =>
        simp only [hb, cond_false] at h
        cases hc : (decide ((ybd bx u.toNat).2 < lo) || decide (hi < (ybd bx u.toNat).1)) with
        | false => simp [hc] at h
        | true =>
          simp only [hc, cond_true] at h
          cases h
          rcases hx with hx | hx
          · rw [hx] at hb; cases hb
          · simp only [Bool.or_eq_true, decide_eq_true_eq] at hc
            have hc2 : (decide (x.toInt < lo) || decide (hi < x.toInt)) = true := by
              simp only [Bool.or_eq_true, decide_eq_true_eq]
              omega
            exact ⟨(((pc : Int) + d).toNat, L', s1, M'), by unfold xsw; dsimp only; rw [hc2]; rfl, rfl, hL, h3, hM⟩
    · rename_i hno
      unfold xsw at h
      split at h
      · rename_i x r
        obtain ⟨v1, s1, rfl, h1, h3⟩ := hs
        cases h1
        unfold xsw
        dsimp only
        cases hc : (decide (x.toInt < lo) || decide (hi < x.toInt)) with
        | true => simp only [hc, cond_true] at h ⊢; cases h; exact ⟨_, rfl, rfl, hL, h3, hM⟩
        | false =>
          simp only [hc, cond_false] at h ⊢
          split at h
          · rename_i off ho
            cases h
            exact ⟨_, rfl, rfl, hL, h3, hM⟩
          · cases h
      · cases h
  case iaload =>
    split at h
    · rename_i j r
      split at h
      · rename_i sl hsl
        split at h
        · rename_i i hi
          split at h
          · rename_i v hv
            cases h
            have hsa := ysc_ok hsl hsa
            obtain ⟨v1, s1, rfl, h1, v2, s2, rfl, h2, h3⟩ := hs
            cases h1; cases h2
            have hlen := yrs_len hsa
            rw [List.length_map] at hlen
            obtain ⟨v', g1, g2⟩ := yrs_nth hsa hv
            rw [xnth_eq, List.getElem?_map] at g1
            have hil := (xix_eq hi)
            cases hg : sc[i]? with
            | none => rw [hg] at g1; cases g1
            | some z =>
              rw [hg] at g1
              cases g1
              refine ⟨(pc + 1, L', .int z :: s2, M'), ?_, rfl, hL, ⟨_, _, rfl, g2, h3⟩, hM⟩
              show (match xix j sc.length with | some i => some (pc + 1, L', Value.int (sc.getD i 0) :: s2, M') | none => none) = _
              rw [hlen, hi]
              dsimp only
              rw [List.getD_eq_getElem?_getD, hg]
              rfl
          · cases h
        · cases h
      · cases h
    · rename_i hno
      obtain ⟨q', g1, g2⟩ := zald h hL hs hM
      refine ⟨q', ?_, g2⟩
      unfold xiald
      split
      · rename_i j r
        exfalso
        unfold xald at h
        split at h
        · obtain ⟨v1, s1, e1, h1, v2, s2, e2, h2, h3⟩ := hs
          cases e1; cases h1; cases e2; cases h2
        · cases h
      · exact g1
  case baload => exact zald h hL hs hM
  case laload => exact zald h hL hs hM
  case aaload =>
    have n23 : ∀ {k : Nat}, xald k pc L st M = none → (∃ q0, xald 24 pc L st M = some q0) → k = 23 → xald k pc L' st' M' = none := by
      intro k hk hq hk23
      subst hk23
      obtain ⟨q0, hq0⟩ := hq
      unfold xald at hq0
      split at hq0
      · rename_i j a r
        split at hq0
        · rename_i sl hsl
          obtain ⟨v1, s1, rfl, h1, v2, s2, rfl, h2, h3⟩ := hs
          cases h1; cases h2
          obtain ⟨sl', g1, g2⟩ := yrm_arr hM hsl
          unfold xald
          dsimp only
          have : xarr M' a 23 = none := by
            have e := xarr_eq g1
            unfold xarr
            rw [xnth_eq, e]
            rfl
          rw [this]
        · cases hq0
      · cases hq0
    split at h
    · rename_i q0 hq0
      cases h
      obtain ⟨q', g1, g2⟩ := zald hq0 hL hs hM
      exact ⟨q', by rw [g1], g2⟩
    · rename_i hq0
      obtain ⟨q', g1, g2⟩ := zald h hL hs hM
      exact ⟨q', by rw [n23 hq0 ⟨q, h⟩ rfl]; exact g1, g2⟩
  case iastore => exact zast zgI h hL hs hM
  case bastore => exact zast zgB h hL hs hM
  case lastore => exact zast zgL h hL hs hM
  case aastore =>
    unfold xastW at h
    split at h
    · rename_i v j a r
      split at h
      · rename_i vs hvs
        split at h
        · rename_i sl hsl
          split at h
          · rename_i i hi
            cases h
            obtain ⟨v0, s0, rfl, h0, v1, s1, rfl, h1, v2, s2, rfl, h2, h3⟩ := hs
            cases h0; cases h1; cases h2
            obtain ⟨vs', g5, g6⟩ := yrm_arr hM hvs
            obtain ⟨sl', g1, g2⟩ := yrm_arr hM hsl
            exact ⟨(pc + 1, L', s2, xwr M' a 23 i sl' (.ref v)), by unfold xastW; dsimp only; rw [g5]; dsimp only; rw [g1]; dsimp only; rw [yrs_len g2, hi], rfl, hL, h3, yrm_set a hM (yrs_set (v := .ref v) (v' := .ref v) rfl i g2)⟩
          · cases h
        · cases h
      · cases h
    · cases h
  case arraylength =>
    split at h
    · split at h
      · rename_i sl hsl
        cases h
        have hsa := ysc_ok hsl hsa
        obtain ⟨v2, s2, rfl, h2, h3⟩ := hs
        cases h2
        have hlen := yrs_len hsa
        rw [List.length_map] at hlen
        exact ⟨(pc + 1, L', .int (Int32.ofNat sl.length) :: s2, M'), by show some (pc + 1, L', Value.int (Int32.ofNat sc.length) :: s2, M') = _; rw [hlen], rfl, hL, ⟨_, _, rfl, rfl, h3⟩, hM⟩
      · cases h
    · exact zlen h hL hs hM
    · cases h
  case newarray t =>
    unfold xnewa at h
    split at h
    · rename_i n r
      obtain ⟨v1, s1, rfl, h1, h3⟩ := hs
      cases h1
      split at h
      · rename_i k v hk
        cases hcnd : (decide (n < 0) || Nat.blt 100000 n.toNatClampNeg) with
        | true => simp [hcnd] at h
        | false =>
          simp only [hcnd, cond_false] at h
          cases h
          have hv : yrv bx v v := by cases t <;> simp only [xkA] at hk <;> cases hk <;> rfl
          refine ⟨(pc + 2, L', .ref M'.length :: s1, M' ++ [(k, List.replicate n.toNatClampNeg v)]), by unfold xnewa; dsimp only; rw [hk]; dsimp only; rw [hcnd]; rfl, rfl, hL, ⟨_, _, rfl, by rw [yrm_len hM]; rfl, h3⟩, yrm_app hM ⟨_, _, rfl, ydf_rep hv, rfl⟩⟩
      · cases h
    · cases h
  case anewarray i =>
    unfold xnewq at h
    split at h
    · rename_i n r
      obtain ⟨v1, s1, rfl, h1, h3⟩ := hs
      cases h1
      cases hcnd : (decide (n < 0) || Nat.blt 100000 n.toNatClampNeg) with
      | true => simp [hcnd] at h
      | false =>
        simp only [hcnd, cond_false] at h
        cases h
        refine ⟨(pc + 3, L', .ref M'.length :: s1, M' ++ [(23, List.replicate n.toNatClampNeg .null)]), by unfold xnewq; dsimp only; rw [hcnd]; rfl, rfl, hL, ⟨_, _, rfl, by rw [yrm_len hM]; rfl, h3⟩, yrm_app hM ⟨_, _, rfl, ydf_rep (v := .null) rfl, rfl⟩⟩
    · cases h
  case new i =>
    cases h
    exact ⟨_, rfl, rfl, hL, ⟨_, _, rfl, by rw [yrm_len hM]; rfl, hs⟩, yrm_app hM ⟨_, _, rfl, yrs_refl (hdf ea), rfl⟩⟩
  case getfield i => exact zget h hL hs hM
  case putfield i =>
    split at h
    · rename_i u a r
      obtain ⟨v1, s1, rfl, h1, v2, s2, rfl, h2, h3⟩ := hs
      cases h2
      obtain ⟨x, rfl, hx⟩ := id h1
      split at h
      · rename_i hty
        split at h
        · rename_i sl hsl
          cases hlt : Nat.blt eb sl.length with
          | false => simp [hlt] at h
          | true =>
            simp only [hlt, cond_true] at h
            cases h
            obtain ⟨sl', g1, g2⟩ := yrm_arr hM hsl
            exact ⟨(pc + 3, L', s2, xwr M' a ea eb sl' (.int x)), by unfold xput; dsimp only; rw [hty]; simp only [xfit, cond_true]; rw [g1]; dsimp only; rw [yrs_len g2, hlt]; rfl, rfl, hL, h3, yrm_set a hM (yrs_set h1 eb g2)⟩
        · cases h
      · cases h
    · exact zput h hL hs hM
  case invokespecial i =>
    split at h
    · rename_i a r
      obtain ⟨v1, s1, rfl, h1, h3⟩ := hs
      cases h1
      cases hc : (Nat.beq ea 5000 && xcat8 r) with
      | false => simp [hc] at h
      | true =>
        simp only [hc, cond_true] at h
        cases h
        dsimp only
        rw [yrs_cat8 h3, hc]
        exact ⟨_, rfl, rfl, hL, h3, hM⟩
    · cases h
  case invokestatic i =>
    have mm : ∀ g : Int32 → Int32 → Int32, xmath g pc L st M = some q → ∃ q', xmath g pc L' st' M' = some q' ∧ yrc bx q q' := by
      intro g hg
      unfold xmath at hg
      split at hg
      · rename_i y x r
        obtain ⟨v1, s1, rfl, h1, v2, s2, rfl, h2, h3⟩ := hs
        cases h1; cases h2
        cases hc : xcat8 r with
        | false => simp [hc] at hg
        | true =>
          simp only [hc, cond_true] at hg
          cases hg
          unfold xmath
          dsimp only
          rw [yrs_cat8 h3, hc]
          exact ⟨_, rfl, rfl, hL, ⟨_, _, rfl, rfl, h3⟩, hM⟩
      · cases hg
    split at h
    · exact zcopy h hL hs hM
    · exact mm _ h
    · exact mm _ h
    · split at h
      · rename_i x r
        obtain ⟨v1, s1, rfl, h1, h3⟩ := hs
        cases h1
        cases hc : xcat8 r with
        | false => simp [hc] at h
        | true =>
          simp only [hc, cond_true] at h
          cases h
          dsimp only
          rw [yrs_cat8 h3, hc]
          exact ⟨_, rfl, rfl, hL, ⟨_, _, rfl, rfl, h3⟩, hM⟩
      · cases h
    · cases h
  case multianewarray i d =>
    unfold xmna at h
    split at h
    · rename_i k n r
      obtain ⟨v1, s1, rfl, h1, v2, s2, rfl, h2, h3⟩ := hs
      cases h1; cases h2
      cases hcnd : (decide (n < 0) || Nat.blt 100000 n.toNatClampNeg || (decide (k < 0) || Nat.blt 100000 k.toNatClampNeg)) with
      | true => simp [hcnd] at h
      | false =>
        simp only [hcnd, cond_false] at h
        cases h
        have hrr : yrm bx (List.replicate n.toNatClampNeg (22, List.replicate k.toNatClampNeg (Value.long 0))) (List.replicate n.toNatClampNeg (22, List.replicate k.toNatClampNeg (Value.long 0))) := yrm_refl (fun o ho v hv => by
          have := List.eq_of_mem_replicate ho
          subst this
          rw [List.eq_of_mem_replicate hv]
          rfl)
        refine ⟨(pc + 4, L', .ref M'.length :: s2, (M' ++ [(24, xrefs (M'.length + 1) n.toNatClampNeg)]) ++ List.replicate n.toNatClampNeg (22, List.replicate k.toNatClampNeg (.long 0))), by unfold xmna; dsimp only; rw [hcnd]; rfl, rfl, hL, ⟨_, _, rfl, by rw [yrm_len hM]; rfl, h3⟩, yrm_app (yrm_app hM ⟨_, _, rfl, ?_, rfl⟩) hrr⟩
        rw [yrm_len hM]
        exact yrs_refl (fun v hv => by
          unfold xrefs at hv
          obtain ⟨i, -, rfl⟩ := List.mem_map.mp hv
          rfl)
    · cases h
  all_goals cases h
end YS4
