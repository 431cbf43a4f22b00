/-! MORE STEPS OF THE CHECK, 2 -/
section KS3
variable {T : kT} {C : kQ} {sc : List Int32} {r : xR} {ρ0 : List Int} {pc : Nat} {s : kS} {Q : Option Value → xM → Prop} {outs : List (Nat × kS)}
theorem klcm_ok {e : xE} (he : xat r.1 pc = some e) (hk : xkind e = 0) (hx : ∀ L (x y : Int64) st M, x1 xty xdf sc e pc L (.long y :: .long x :: st) M = some (pc + 1, L, .int (lg_cmp x y) :: st, M)) (h : klcm pc s = some outs) (hg : ∀ q ∈ outs, kG T C sc r ρ0 q.1 q.2 Q) : kG T C sc r ρ0 pc s Q := by
  obtain ⟨E, L, S, O⟩ := s
  unfold klcm at h
  dsimp only at h
  split at h
  · rename_i y x S'
    cases hb : ((Nat.beq x.1 1 && Nat.beq y.1 1) && kz E) with
    | false => rw [hb] at h; cases h
    | true =>
      rw [hb] at h
      cases h
      simp only [Bool.and_eq_true] at hb
      intro σ L' st B I J ⟨h1, h2, h3, h4⟩ hB hI
      obtain ⟨w1, st1, rfl, g1, w2, st2, rfl, g2, h3⟩ := h3
      obtain ⟨t1, i1, c1⟩ := x
      obtain ⟨t2, i2, c2⟩ := y
      have e1 := Nat.eq_of_beq_eq_true hb.1.1
      have e2 := Nat.eq_of_beq_eq_true hb.1.2
      dsimp only at e1 e2
      subst e1 e2
      obtain ⟨q, rfl, hq⟩ := id g1
      obtain ⟨p, rfl, hp⟩ := id g2
      refine sw_0 he hk (hx _ _ _ _ _) ?_
      have kn : ∀ (E' : kE) (c : Int32), kin (ρ0 ++ σ) E' → kz E = true → knum (ρ0 ++ σ) (0, 0, c.toInt) c.toInt := fun E' c _ hz => kz_ok h1 hz c.toInt 0
      by_cases c1' : p.toInt < q.toInt
      · have ec : lg_cmp p q = -1 := by
          unfold lg_cmp
          rw [if_neg (fun z => by have := Int64.lt_iff_toInt_lt.mp z; omega), if_neg (fun z => by rw [z] at c1'; omega)]
        rw [ec]
        obtain ⟨E', k1, k2⟩ := kcl_ok (d := 1) h1 hp hq (by omega)
        exact hg _ (List.mem_append_left _ (kopt_in k1)) σ L' (.int (-1) :: st2) B I J ⟨k2, h2, ⟨_, _, rfl, ⟨-1, rfl, kz_ok h1 hb.2 (-1) 0⟩, h3⟩, h4⟩ hB hI
      · by_cases c2' : p.toInt = q.toInt
        · have ep : p = q := Int64.toInt_inj.mp c2'
          have ec : lg_cmp p q = 0 := by
            unfold lg_cmp
            rw [if_neg (fun z => by have := Int64.lt_iff_toInt_lt.mp z; omega), if_pos ep]
          rw [ec]
          obtain ⟨E', k1, k2⟩ := kce_ok h1 hp hq c2'
          exact hg _ (List.mem_append_right _ (List.mem_append_left _ (kopt_in k1))) σ L' (.int 0 :: st2) B I J ⟨k2, h2, ⟨_, _, rfl, ⟨0, rfl, kz_ok h1 hb.2 0 0⟩, h3⟩, h4⟩ hB hI
        · have ec : lg_cmp p q = 1 := by
            unfold lg_cmp
            rw [if_pos (show q < p from Int64.lt_iff_toInt_lt.mpr (by omega))]
          rw [ec]
          obtain ⟨E', k1, k2⟩ := kcl_ok (d := 1) h1 hq hp (by omega)
          exact hg _ (List.mem_append_right _ (List.mem_append_right _ (kopt_in k1))) σ L' (.int 1 :: st2) B I J ⟨k2, h2, ⟨_, _, rfl, ⟨1, rfl, kz_ok h1 hb.2 1 0⟩, h3⟩, h4⟩ hB hI
  · cases h
theorem kplc_ok {e : xE} {n : Nat} {c : Int} {w : Int64} (he : xat r.1 pc = some e) (hk : xkind e = 0) (hx : ∀ L st M, x1 xty xdf sc e pc L st M = some (pc + n, L, .long w :: st, M)) (hw : klmin ≤ c → c ≤ klmax → w.toInt = c) (h : kplc n pc c s = some outs) (hg : ∀ q ∈ outs, kG T C sc r ρ0 q.1 q.2 Q) : kG T C sc r ρ0 pc s Q := by
  unfold kplc at h
  cases hb : (kz s.1 && (decide (klmin ≤ c) && decide (c ≤ klmax))) with
  | false => rw [hb] at h; cases h
  | true =>
    rw [hb] at h
    cases h
    simp only [Bool.and_eq_true, decide_eq_true_eq] at hb
    refine kk_push (v := (1, 0, c)) he hk (fun L st M => s1_of (hx L st M)) (fun ρ hρ => ⟨w, rfl, ?_⟩) (hg _ List.mem_cons_self)
    rw [hw hb.2.1 hb.2.2]
    exact kz_ok hρ hb.1 c 1
theorem tl_of {n : Int} (h1 : klmin ≤ n) (h2 : n ≤ klmax) : (Int64.ofInt n).toInt = n := by
  unfold klmin at h1
  unfold klmax at h2
  rw [Int64.toInt_ofInt, show Int64.size = 18446744073709551616 from rfl]
  exact Int.bmod_eq_of_le (by omega) (by omega)
theorem kpL_ok {e : xE} {n i : Nat} (he : xat r.1 pc = some e) (hk : xkind e = 0) (hx : ∀ L st M, x1 xty xdf sc e pc L st M = xpL n pc i L st M) (h : kpL n pc i s = some outs) (hg : ∀ q ∈ outs, kG T C sc r ρ0 q.1 q.2 Q) : kG T C sc r ρ0 pc s Q := by
  unfold kpL at h
  split at h
  · rename_i v hv
    cases hb : Nat.beq v.1 1 with
    | false => rw [hb] at h; cases h
    | true =>
      rw [hb] at h
      cases h
      intro σ L' st B I J ⟨h1, h2, h3, h4⟩ hB hI
      obtain ⟨w, g1, g2⟩ := kvl_find h2 hv
      obtain ⟨t, j, c⟩ := v
      have e0 := Nat.eq_of_beq_eq_true hb
      dsimp only at e0
      subst e0
      obtain ⟨x, rfl, hx2⟩ := id g2
      refine sw_0 he hk ?_ (hg _ List.mem_cons_self σ L' (.long x :: st) B I J ⟨h1, h2, ⟨_, st, rfl, g2, h3⟩, h4⟩ hB hI)
      rw [hx]
      unfold xpL
      rw [g1]
  · cases h
theorem ksL_ok {e : xE} {n i : Nat} (he : xat r.1 pc = some e) (hk : xkind e = 0) (hx : ∀ L st M, x1 xty xdf sc e pc L st M = xsL n pc i L st M) (h : ksL n pc i s = some outs) (hg : ∀ q ∈ outs, kG T C sc r ρ0 q.1 q.2 Q) : kG T C sc r ρ0 pc s Q := by
  obtain ⟨E, L, S, O⟩ := s
  unfold ksL at h
  dsimp only at h
  split at h
  · rename_i v S'
    cases hb : Nat.beq v.1 1 with
    | false => rw [hb] at h; cases h
    | true =>
      rw [hb] at h
      cases h
      intro σ L' st B I J ⟨h1, h2, h3, h4⟩ hB hI
      obtain ⟨w, st', rfl, g2, h3⟩ := h3
      obtain ⟨t, j, c⟩ := v
      have e0 := Nat.eq_of_beq_eq_true hb
      dsimp only at e0
      subst e0
      obtain ⟨x, rfl, hx2⟩ := id g2
      refine sw_0 he hk ?_ (hg _ List.mem_cons_self σ (xst2 L' i (.long x)) st' B I J ⟨h1, kvl_set2 h2 g2, h3, h4⟩ hB hI)
      rw [hx]
      rfl
  · cases h
theorem kcat1 {ρ : List Int} {v : kV} {w : Value} (h : kv ρ v w) (hv : Nat.beq v.1 1 = false) : Nat.beq (xcat w) 1 = true ∧ Nat.beq (xcat w) 2 = false := by
  obtain ⟨t, i, c⟩ := v
  match t, h, hv with
  | 0, ⟨x, h1, _⟩, _ => subst h1; exact ⟨rfl, rfl⟩
  | 1, _, hv => cases hv
  | 2, h, _ => have e : w = .ref i := h; subst e; exact ⟨rfl, rfl⟩
  | t + 3, h, _ => have e : w = .retAddr i := h; subst e; exact ⟨rfl, rfl⟩
theorem kcat2 {ρ : List Int} {v : kV} {w : Value} (h : kv ρ v w) (hv : Nat.beq v.1 1 = true) : Nat.beq (xcat w) 1 = false ∧ Nat.beq (xcat w) 2 = true := by
  obtain ⟨t, i, c⟩ := v
  have e := Nat.eq_of_beq_eq_true hv
  dsimp only at e
  subst e
  obtain ⟨x, rfl, -⟩ := h
  exact ⟨rfl, rfl⟩
theorem kstep2_ok {e : xE} (he : xat r.1 pc = some e) (hk : xkind e = 0) (h : kstep2 T e pc s = some outs) (hg : ∀ q ∈ outs, kG T C sc r ρ0 q.1 q.2 Q) : kG T C sc r ρ0 pc s Q := by
  obtain ⟨ins, ea, eb, ez⟩ := e
  cases ins
  case imul => exact kt2_ok he hk (fun _ _ _ => rfl) h hg
  case iand => exact kt2_ok he hk (fun _ _ _ => rfl) h hg
  case ior => exact kt2_ok he hk (fun _ _ _ => rfl) h hg
  case ixor => exact kt2_ok he hk (fun _ _ _ => rfl) h hg
  case ishl => exact kt2_ok he hk (fun _ _ _ => rfl) h hg
  case ishr => exact kt2_ok he hk (fun _ _ _ => rfl) h hg
  case iushr => exact kt2_ok he hk (fun _ _ _ => rfl) h hg
  case ineg => exact kt1_ok he hk (fun _ _ _ => rfl) h hg
  case i2b => exact kt1_ok he hk (fun _ _ _ => rfl) h hg
  case i2s => exact kt1_ok he hk (fun _ _ _ => rfl) h hg
  case ladd => exact kll_ok he hk (fun _ _ _ => rfl) h hg
  case lsub => exact kll_ok he hk (fun _ _ _ => rfl) h hg
  case lmul => exact kll_ok he hk (fun _ _ _ => rfl) h hg
  case land => exact kll_ok he hk (fun _ _ _ => rfl) h hg
  case lor => exact kll_ok he hk (fun _ _ _ => rfl) h hg
  case lxor => exact kll_ok he hk (fun _ _ _ => rfl) h hg
  case lshl => exact kli_ok he hk (fun _ _ _ => rfl) h hg
  case lshr => exact kli_ok he hk (fun _ _ _ => rfl) h hg
  case lushr => exact kli_ok he hk (fun _ _ _ => rfl) h hg
  case lcmp => exact klcm_ok he hk (fun _ _ _ _ _ => rfl) h hg
  case i2l =>
    obtain ⟨E, L, S, O⟩ := s
    simp only [kstep2, ki2l] at h
    split at h
    · rename_i x S'
      cases hb : Nat.beq x.1 0 with
      | false => rw [hb] at h; cases h
      | true =>
        rw [hb] at h
        cases h
        intro σ L' st B I J ⟨h1, h2, h3, h4⟩ hB hI
        obtain ⟨w, st', rfl, g2, h3⟩ := h3
        obtain ⟨t, j, c⟩ := x
        have e0 := Nat.eq_of_beq_eq_true hb
        dsimp only at e0
        subst e0
        obtain ⟨x, rfl, hx2⟩ := id g2
        refine sw_0 he hk rfl (hg _ List.mem_cons_self σ L' (.long x.toInt64 :: st') B I J ⟨h1, h2, ⟨_, _, rfl, ⟨x.toInt64, rfl, ?_⟩, h3⟩, h4⟩ hB hI)
        rw [Int32.toInt_toInt64]
        exact hx2
    · cases h
  case lconst n => exact kplc_ok he hk (fun _ _ _ => rfl) tl_of h hg
  case ldc2_w i => exact kplc_ok he hk (fun _ _ _ => rfl) tl_of h hg
  case lload i => exact kpL_ok he hk (fun _ _ _ => rfl) h hg
  case lload_n i => exact kpL_ok he hk (fun _ _ _ => rfl) h hg
  case lstore i => exact ksL_ok he hk (fun _ _ _ => rfl) h hg
  case lstore_n i => exact ksL_ok he hk (fun _ _ _ => rfl) h hg
  case pop =>
    obtain ⟨E, L, S, O⟩ := s
    simp only [kstep2, kpop1] at h
    split at h
    · rename_i x S'
      cases hb : Nat.beq x.1 1 with
      | true => rw [hb] at h; cases h
      | false =>
        rw [hb] at h
        cases h
        intro σ L' st B I J ⟨h1, h2, h3, h4⟩ hB hI
        obtain ⟨w, st', rfl, g2, h3⟩ := h3
        refine sw_0 he hk (?_ : (bif Nat.beq (xcat w) 1 then some (pc + 1, L', st', tMem B I J) else none) = _) (hg _ List.mem_cons_self σ L' st' B I J ⟨h1, h2, h3, h4⟩ hB hI)
        rw [(kcat1 g2 hb).1]
        rfl
    · cases h
  case dup =>
    obtain ⟨E, L, S, O⟩ := s
    simp only [kstep2, kdup1] at h
    split at h
    · rename_i x S'
      cases hb : Nat.beq x.1 1 with
      | true => rw [hb] at h; cases h
      | false =>
        rw [hb] at h
        cases h
        intro σ L' st B I J ⟨h1, h2, h3, h4⟩ hB hI
        obtain ⟨w, st', rfl, g2, h3⟩ := h3
        refine sw_0 he hk (?_ : (bif Nat.beq (xcat w) 1 then some (pc + 1, L', w :: w :: st', tMem B I J) else none) = _) (hg _ List.mem_cons_self σ L' (w :: w :: st') B I J ⟨h1, h2, ⟨_, _, rfl, g2, _, _, rfl, g2, h3⟩, h4⟩ hB hI)
        rw [(kcat1 g2 hb).1]
        rfl
    · cases h
  case dup2 =>
    obtain ⟨E, L, S, O⟩ := s
    simp only [kstep2, kdup2] at h
    split at h
    · rename_i x y S'
      cases hb : Nat.beq x.1 1 with
      | true =>
        rw [hb] at h
        cases h
        intro σ L' st B I J ⟨h1, h2, h3, h4⟩ hB hI
        obtain ⟨w, st', rfl, g2, w2, st2, rfl, g3, h3⟩ := h3
        refine sw_0 he hk (?_ : (bif Nat.beq (xcat w) 1 && Nat.beq (xcat w2) 1 then some (pc + 1, L', w :: w2 :: w :: w2 :: st2, tMem B I J) else bif Nat.beq (xcat w) 2 then some (pc + 1, L', w :: w :: w2 :: st2, tMem B I J) else none) = _) (hg _ List.mem_cons_self σ L' (w :: w :: w2 :: st2) B I J ⟨h1, h2, ⟨_, _, rfl, g2, _, _, rfl, g2, _, _, rfl, g3, h3⟩, h4⟩ hB hI)
        rw [(kcat2 g2 hb).1, (kcat2 g2 hb).2]
        rfl
      | false =>
        rw [hb] at h
        simp only [cond_false] at h
        cases hb2 : Nat.beq y.1 1 with
        | true => rw [hb2] at h; cases h
        | false =>
          rw [hb2] at h
          cases h
          intro σ L' st B I J ⟨h1, h2, h3, h4⟩ hB hI
          obtain ⟨w, st', rfl, g2, w2, st2, rfl, g3, h3⟩ := h3
          refine sw_0 he hk (?_ : (bif Nat.beq (xcat w) 1 && Nat.beq (xcat w2) 1 then some (pc + 1, L', w :: w2 :: w :: w2 :: st2, tMem B I J) else bif Nat.beq (xcat w) 2 then some (pc + 1, L', w :: w :: w2 :: st2, tMem B I J) else none) = _) (hg _ List.mem_cons_self σ L' (w :: w2 :: w :: w2 :: st2) B I J ⟨h1, h2, ⟨_, _, rfl, g2, _, _, rfl, g3, _, _, rfl, g2, _, _, rfl, g3, h3⟩, h4⟩ hB hI)
          rw [(kcat1 g2 hb).1, (kcat1 g3 hb2).1]
          rfl
    · cases h
  all_goals cases h
end KS3
