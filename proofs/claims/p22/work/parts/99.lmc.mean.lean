/-! MEAN: the slot is put back (a run of calls: what contracts and functions say, together) -/
section MN
variable {sc : List Int32} {B : xM} {n : Nat} {I : tI} {J : tJ} {r : xR} {pc : Nat} {L : xL} {st : List Value} {Q : Option Value → tI → tJ → Prop} {e : xE} {as rest : List Value} {r' : xR} {c : nC}
theorem con_run (hmc : xmeth c.1.1 = some r') (hC : nCon (ktN sc) sc c) (hO : nOk (ktN sc) B I) (ha : kvcs c.1.2.1 as) (hpre : npI c.2.2.1 I) (hn : nmod c.2.1 1000 0 = false) {g : Nat} {v : Option Value} {M : xM} (h : srun xmeth xty xdf sc g r' 0 (lv_args 0 as) [] (tMem B I J) = some (v, M)) : ∃ I1 J1, M = tMem B I1 J1 ∧ nOk (ktN sc) B I1 ∧ kAg c.2.1 B I J B I1 J1 ∧ npI c.2.2.2 I1 ∧ kvo c.1.2.2 v := by
  obtain ⟨g0, v0, M0, h0, B', I', J', e1, e2, e3, e4, e5⟩ := hC r' as B I J hmc ha hO hpre
  have hB : B' = B := e3.2.1 hn
  subst hB
  have a := srun_le g (max g g0) (Nat.le_max_left _ _) h
  rw [srun_le g0 (max g g0) (Nat.le_max_right _ _) h0] at a
  cases a
  exact ⟨I', J', e1, e2, e3, e4, e5⟩
theorem pq_1c (c : nC) (he : xat r.1 pc = some e) (hk : xkind e = 1) (hp : xpop e.2.2.1 [] st = some (as, rest)) (hm : xmeth e.2.1 = some r') (hmc : xmeth c.1.1 = some r') (hC : nCon (ktN sc) sc c) (hO : nOk (ktN sc) B I) (ha : kvcs c.1.2.1 as) (hpre : npI c.2.2.1 I) (hn : nmod c.2.1 1000 0 = false) (h : ∀ v I1 J1, nOk (ktN sc) B I1 → kAg c.2.1 B I J B I1 J1 → npI c.2.2.2 I1 → kvo c.1.2.2 v → pq sc B n r (pc + 3) L (xpush v rest) I1 J1 Q) : pq sc B n r pc L st I J Q := by
  intro L' hL g hg v M' hr
  match g with
  | 0 => simp [srun] at hr
  | g + 1 =>
    simp only [srun, he, hk, hp] at hr
    replace hr := (bif_n hr).2
    rw [hm] at hr
    dsimp only at hr
    replace hr := (bif_n hr).2
    split at hr
    · cases hr
    · rename_i q hq
      obtain ⟨v1, M1⟩ := q
      obtain ⟨I1, J1, e1, h1, h2, h3, h4⟩ := con_run hmc hC hO ha hpre hn hq
      subst e1
      exact h v1 I1 J1 h1 h2 h3 h4 L' hL g (by omega) v M' hr
theorem pq_1f {Q1 : Option Value → tI → tJ → Prop} (c : nC) (he : xat r.1 pc = some e) (hk : xkind e = 1) (hp : xpop e.2.2.1 [] st = some (as, rest)) (hm : xmeth e.2.1 = some r') (hmc : xmeth c.1.1 = some r') (hC : nCon (ktN sc) sc c) (hO : nOk (ktN sc) B I) (ha : kvcs c.1.2.1 as) (hpre : npI c.2.2.1 I) (hn : nmod c.2.1 1000 0 = false) (hf : pq sc B n r' 0 (lv_args 0 as) [] I J Q1) (h : ∀ v I1 J1 K1 L1, nOk (ktN sc) B I1 → kAg c.2.1 B I J B I1 J1 → npI c.2.2.2 I1 → kvo c.1.2.2 v → Q1 v K1 L1 → slq K1 I1 L1 J1 → pq sc B n r (pc + 3) L (xpush v rest) I1 J1 Q) : pq sc B n r pc L st I J Q := by
  intro L' hL g hg v M' hr
  match g with
  | 0 => simp [srun] at hr
  | g + 1 =>
    simp only [srun, he, hk, hp] at hr
    replace hr := (bif_n hr).2
    rw [hm] at hr
    dsimp only at hr
    replace hr := (bif_n hr).2
    split at hr
    · cases hr
    · rename_i q hq
      obtain ⟨v1, M1⟩ := q
      obtain ⟨I1, J1, e1, h1, h2, h3, h4⟩ := con_run hmc hC hO ha hpre hn hq
      obtain ⟨K1, L1, e2, h5⟩ := hf _ (leqn_args 0 as) g (by omega) v1 M1 hq
      have hs : slq K1 I1 L1 J1 := slq_of (pB_nok rfl hO) (pB_nok rfl h1) (e2.symm.trans e1)
      subst e1
      exact h v1 I1 J1 K1 L1 h1 h2 h3 h4 h5 hs L' hL g (by omega) v M' hr
end MN
def rMean : xR := (xt_348, 6, 3)
def sl252 : Bool := (List.range 252).all (fun k => decide ((ktB 186 k).1 = 0) && decide ((ktB 186 (3100 + k)).1 = 0))
set_option maxRecDepth 100000 in
theorem sl252_ok : sl252 = true := by decide +kernel
theorem sl252_at {k : Nat} (hk : k < 252) : slI 186 k ∧ slI 186 (3100 + k) := by
  have h := List.all_eq_true.mp sl252_ok k (List.mem_range.mpr hk)
  simp only [Bool.and_eq_true, decide_eq_true_eq] at h
  exact ⟨⟨20, 3972, rfl, by omega, h.1⟩, ⟨20, 3972, rfl, by omega, h.2⟩⟩
theorem nok_4 {sc : List Int32} {B : xM} {I : tI} (hO : nOk (ktN sc) B I) : 0 ≤ (I 186 4).toInt ∧ (I 186 4).toInt ≤ 4 := hO.2.1 186 (20, 3972) 4 rfl (by decide) rfl
theorem f216_in {I : tI} {J : tJ} {a : Int32} {lo hi : Int64} {v : Int32} {I1 : tI} {J1 : tJ} (h : f216 I J a.toInt64 lo hi = (v, I1, J1)) : (I1 = I ∧ J1 = J) ∧ (v ≠ 0 → lo.toInt ≤ a.toInt ∧ a.toInt ≤ hi.toInt) := by
  unfold f216 at h
  rcases bsp h with ⟨c1, h⟩ | ⟨c1, h⟩
  · cases h
    exact ⟨⟨rfl, rfl⟩, fun q => absurd rfl q⟩
  · rcases bsp h with ⟨c2, h⟩ | ⟨c2, h⟩
    · cases h
      exact ⟨⟨rfl, rfl⟩, fun q => absurd rfl q⟩
    · cases h
      refine ⟨⟨rfl, rfl⟩, fun _ => ?_⟩
      have ea : a.toInt64.toInt = a.toInt := Int32.toInt_toInt64 a
      constructor
      · rcases Int.lt_or_le a.toInt lo.toInt with q | q
        · have q' : ¬ lo < a.toInt64 := fun z => by
            have := Int64.lt_iff_toInt_lt.mp z
            rw [ea] at this
            omega
          have q2 : ¬ a.toInt64 = lo := fun z => by
            rw [z] at ea
            omega
          have e : lg_cmp a.toInt64 lo = -1 := by
            unfold lg_cmp
            rw [if_neg q2, if_neg q']
          rw [e] at c1
          exact absurd c1 (by decide)
        · exact q
      · rcases Int.lt_or_le hi.toInt a.toInt with q | q
        · have q' : hi < a.toInt64 := Int64.lt_iff_toInt_lt.mpr (by rw [ea]; exact q)
          have q2 : ¬ a.toInt64 = hi := fun z => by
            rw [z] at ea
            omega
          have e : lg_cmp a.toInt64 hi = 1 := by
            unfold lg_cmp
            rw [if_neg q2, if_pos q']
          rw [e] at c2
          exact absurd c2 (by decide)
        · exact q
theorem nm_lt {k : Nat} (hk : k < 252) : nmod nc258.2.1 186 (3100 + k) = false := by
  have h := List.all_eq_true.mp (by decide +kernel : (List.range 252).all (fun k => !nmod nc258.2.1 186 (3100 + k)) = true) k (List.mem_range.mpr hk)
  simpa using h
theorem nm_lt2 {k : Nat} (hk : k < 252) : nmod nc276.2.1 186 (3100 + k) = false := by
  have h := List.all_eq_true.mp (by decide +kernel : (List.range 252).all (fun k => !nmod nc276.2.1 186 (3100 + k)) = true) k (List.mem_range.mpr hk)
  simpa using h
theorem nm_lt3 {k : Nat} (hk : k < 252) : nmod nc275.2.1 186 k = false := by
  have h := List.all_eq_true.mp (by decide +kernel : (List.range 252).all (fun k => !nmod nc275.2.1 186 k) = true) k (List.mem_range.mpr hk)
  simpa using h
theorem qu_out {k : Nat} (h : k < 252) : qfIU 186 k = false := by
  unfold qfIU
  cases q : Nat.ble 252 k with
  | false => rfl
  | true => exact absurd (Nat.le_of_ble_eq_true q) (by omega)
section MN2
variable {sc : List Int32} {B : xM} {I0 : tI} {x1 x2 : Int32}
/-- what mean leaves: the slot as it was -/
def CCm (I0 : tI) (v : Option Value) (I1 : tI) (J1 : tJ) : Prop := ∀ k, k < 252 → I1 186 k = I0 186 k
set_option maxRecDepth 100000 in
theorem mean_l {N : Nat} (hB : kB pT B) (h1 : 0 ≤ x1.toInt ∧ x1.toInt ≤ 9999) (h2 : x2.toInt ≤ 20) (hx : ∀ {n : Nat} {I : tI} {J : tJ} {x3 : Int64} {x5 : Int32}, n ≤ N → (∀ k, k < 252 → I 186 k = I0 186 k) → pq sc B n rMean 115 [(0, .ref 185), (1, .int x1), (2, .int x2), (3, .long x3), (5, .int x5)] [] I J (CCm I0)) : ∀ (b : Nat) {I : tI} {J : tJ} {x3 : Int64} {x5 : Int32}, b ≤ N → 0 ≤ x5.toInt → nOk (ktN sc) B I → npI [(186, 5, 0, 999)] I → (∀ k, k < 252 → I 186 k = I0 186 k) → (∀ k, k < 252 → I 186 (3100 + k) = I0 186 k) → pq sc B b rMean 71 [(0, .ref 185), (1, .int x1), (2, .int x2), (3, .long x3), (5, .int x5)] [] I J (CCm I0)
  | 0, _, _, _, _, _, _, _, _, _, _ => pq_zero
  | b + 1, I, J, x3, x5, hbN, h5, hO, hs, hk, hp => by
    refine pq_s1 hB 1 (pc' := 74) (L' := [(0, .ref 185), (1, .int x1), (2, .int x2), (3, .long x3), (5, .int x5)]) (st' := [.int x2, .int x5]) (I' := I) (J' := J) (by with_unfolding_all rfl) ?_
    refine pq_icn hB rfl (fun h10 => ?_) (fun h10 => ?_)
    · exact hx (by omega) hk
    · rw [tc_ge] at h10
      have h6 : x5.toInt < x2.toInt := by
        have := of_decide_eq_false h10
        omega
      have e15 : (x1 + x5).toInt = x1.toInt + x5.toInt := ti_add (by omega) (by omega)
      refine pq_s hB 4 (pc' := 82) (L' := [(0, .ref 185), (1, .int x1), (2, .int x2), (3, .long x3), (5, .int x5)]) (st' := [.int (x1 + x5), .ref 185]) (I' := I) (J' := J) (by with_unfolding_all rfl) ?_
      refine pq_1c nc258 rfl rfl rfl rfl rfl nN258 hO ⟨_, _, rfl, kv_argr 185, _, _, rfl, ⟨_, rfl, by show (0 : Int) ≤ _; rw [e15]; omega, by show _ ≤ (11272 : Int); rw [e15]; omega⟩, rfl⟩ hs rfl ?_
      intro v I11 J11 hO11 hA11 hs11 hv11
      have ev : v = none := hv11
      subst ev
      refine pq_s hB 7 (pc' := 96) (L' := [(0, .ref 185), (1, .int x1), (2, .int x2), (3, .long x3), (5, .int x5)]) (st' := [.int (I11 186 4), .int 128, .ref 185, .long x3]) (I' := I11) (J' := J11) (by with_unfolding_all rfl) ?_
      refine pq_1c nc97 rfl rfl rfl rfl rfl nN97 hO11 ⟨_, _, rfl, kv_argr 185, _, _, rfl, ⟨_, rfl, by decide, by decide⟩, _, _, rfl, ⟨_, rfl, (nok_4 hO11).1, (nok_4 hO11).2⟩, rfl⟩ (fun q hq => by cases hq) rfl ?_
      intro v I12 J12 hO12 hA12 hs12 hv12
      obtain ⟨v12, rfl, -, -⟩ := kvo_i hv12
      refine pq_s hB 5 (pc' := 106) (L' := [(3, .long (x3 + ((v12).toInt64))), (0, .ref 185), (1, .int x1), (2, .int x2), (5, .int x5)]) (st' := [.int 3100, .ref 185]) (I' := I12) (J' := J12) (by with_unfolding_all rfl) ?_
      refine pq_1f nc276 rfl rfl rfl rfl rfl nN276 hO12 ⟨_, _, rfl, kv_argr 185, _, _, rfl, ⟨_, rfl, by decide, by decide⟩, rfl⟩ (fun q hq => by cases hq) rfl (f297_185_pq hB rfl) ?_
      intro v I13 J13 K13 L13 hO13 hA13 hs13 hv13 hf13 hq13
      obtain ⟨rfl, hf13⟩ := hf13
      obtain ⟨-, -, r3⟩ := rest_ok (x0 := 3100) (by omega) (by omega) hf13
      have kp : ∀ k, k < 252 → I12 186 (3100 + k) = I0 186 k := fun k q => by
        rw [(hA12.1 186 (3100 + k) rfl).1, (hA11.1 186 (3100 + k) (nm_lt q)).1]
        exact hp k q
      refine pq_s hB 2 (pc' := 71) (L' := [(5, .int (x5 + 1)), (3, .long (x3 + ((v12).toInt64))), (0, .ref 185), (1, .int x1), (2, .int x2)]) (st' := []) (I' := I13) (J' := J13) (by with_unfolding_all rfl) ?_
      refine pq_perm (L := [(0, .ref 185), (1, .int x1), (2, .int x2), (3, .long (x3 + ((v12).toInt64))), (5, .int (x5 + 1))]) (leqn_of ⟨rfl, rfl, rfl, rfl, rfl, trivial⟩ ⟨rfl, rfl, rfl, rfl, rfl, trivial⟩ ⟨rfl, rfl, rfl, rfl, rfl, trivial⟩) ?_
      have e51 : (x5 + 1).toInt = x5.toInt + 1 := ti_add (by show _ ≤ x5.toInt + 1; omega) (by show x5.toInt + 1 ≤ _; omega)
      refine mean_l hB h1 h2 hx b (by omega) (by rw [e51]; omega) hO13 hs13 (fun k q => ?_) (fun k q => ?_)
      · rw [hq13.1 186 k (sl252_at q).1, r3 k q]
        exact kp k q
      · rw [(hA13.1 186 (3100 + k) (nm_lt2 q)).1]
        exact kp k q
theorem f204_sl {I I1 : tI} {J J1 : tJ} {s v : Int32} (h : f204_185 I J s = (v, I1, J1)) : ∀ k, I1 186 k = I 186 k := fun k => by
  unfold f204_185 at h
  rcases bsp h with ⟨-, h⟩ | ⟨-, h⟩ <;> (cases h; exact tup_ne (by omega))
set_option maxRecDepth 100000 in
theorem mean_pq {N : Nat} {I : tI} {J : tJ} {a0 a1 : Int32} (hB : kB pT B) (hO : nOk (ktN sc) B I) (hs : npI [(186, 5, 0, 999)] I) : pq sc B N rMean 0 [(0, .ref 185), (1, .int a0), (2, .int a1)] [] I J (CCm I) := by
  have hle : N ≤ N := Nat.le_refl N
  have pb : PB I := by
    have h : 0 ≤ (I 186 2).toInt ∧ (I 186 2).toInt ≤ 5 := hO.2.1 186 (20, 3972) 2 rfl (by decide) rfl
    refine ⟨(I 186 2).toInt.toNat, by omega, i32_eq ?_⟩
    rw [oi_int (by omega)]
    omega
  refine pq_s hB 4 (pc' := 6) (L' := [(0, .ref 185), (1, .int a0), (2, .int a1)]) (st' := [.long 9999, .long 0, .long (a0).toInt64]) (I' := I) (J' := J) (by with_unfolding_all rfl) ?_
  generalize hc1 : f216 I J ((a0).toInt64) 0 9999 = q1
  obtain ⟨v1, I1', J1'⟩ := q1
  obtain ⟨⟨rfl, rfl⟩, b1⟩ := f216_in hc1
  refine pq_1 rfl rfl rfl rfl (f216_pq hB hc1) ?_
  rintro _ I1 J1 ⟨rfl, rfl, rfl⟩
  have out : ∀ {n : Nat} {x : Int32}, pq sc B n rMean 37 [(0, .ref 185), (1, .int a0), (2, .int a1)] [.int x, .ref 185] I1 J1 (CCm I1) := fun {n x} => by
    generalize hc3 : f204_185 I1 J1 x = q3
    obtain ⟨v3, I3', J3'⟩ := q3
    refine pq_1 rfl rfl rfl rfl (f204_185_pq hB hc3) ?_
    rintro _ I3 J3 ⟨rfl, rfl, rfl⟩
    exact pq_2i (x := v3) rfl (fun k _ => f204_sl hc3 k)
  refine pq_ifn hB rfl (fun h2 => ?_) (fun h2 => ?_)
  · refine pq_s hB 2 (pc' := 37) (L' := [(0, .ref 185), (1, .int a0), (2, .int a1)]) (st' := [.int 1, .ref 185]) (I' := I1) (J' := J1) (by with_unfolding_all rfl) ?_
    exact out
  · refine pq_s hB 4 (pc' := 18) (L' := [(0, .ref 185), (1, .int a0), (2, .int a1)]) (st' := [.long 20, .long 1, .long (a1).toInt64]) (I' := I1) (J' := J1) (by with_unfolding_all rfl) ?_
    generalize hc4 : f216 I1 J1 ((a1).toInt64) 1 20 = q4
    obtain ⟨v4, I4', J4'⟩ := q4
    obtain ⟨⟨e41, e42⟩, b4⟩ := f216_in hc4
    refine pq_1 rfl rfl rfl rfl (f216_pq hB hc4) ?_
    rintro _ I4 J4 ⟨rfl, e43, e44⟩
    have e45 : I4 = I1 := e43.trans e41
    have e46 : J4 = J1 := e44.trans e42
    rw [e45, e46]
    refine pq_ifn hB rfl (fun h5 => ?_) (fun h5 => ?_)
    · refine pq_s hB 2 (pc' := 37) (L' := [(0, .ref 185), (1, .int a0), (2, .int a1)]) (st' := [.int 1, .ref 185]) (I' := I1) (J' := J1) (by with_unfolding_all rfl) ?_
      exact out
    · refine pq_s hB 6 (pc' := 32) (L' := [(0, .ref 185), (1, .int a0), (2, .int a1)]) (st' := [.int 9999, .int ((a0 + a1) - 1)]) (I' := I1) (J' := J1) (by with_unfolding_all rfl) ?_
      refine pq_icn hB rfl (fun h7 => ?_) (fun h7 => ?_)
      · refine pq_s hB 5 (pc' := 49) (L' := [(0, .ref 185), (1, .int a0), (2, .int a1)]) (st' := [.int (-1), .int (I1 186 8)]) (I' := I1) (J' := J1) (by with_unfolding_all rfl) ?_
        refine pq_icn hB rfl (fun h8 => ?_) (fun h8 => ?_)
        · have n1 : v1 ≠ 0 := fun q => by
            rw [xc_eq q] at h2
            cases h2
          have n4 : v4 ≠ 0 := fun q => by
            rw [xc_eq q] at h5
            cases h5
          have c1 := b1 n1
          have c4 := b4 n4
          refine pq_s hB 2 (pc' := 63) (L' := [(0, .ref 185), (1, .int a0), (2, .int a1)]) (st' := [.int 3100, .ref 185]) (I' := I1) (J' := J1) (by with_unfolding_all rfl) ?_
          refine pq_1f nc275 rfl rfl rfl rfl rfl nN275 hO ⟨_, _, rfl, kv_argr 185, _, _, rfl, ⟨_, rfl, by decide, by decide⟩, rfl⟩ hs rfl (f296_185_pq hB rfl) ?_
          intro v I9 J9 K9 L9 hO9 hA9 hs9 hv9 hf9 hq9
          obtain ⟨rfl, hf9⟩ := hf9
          obtain ⟨-, -, r3⟩ := keep_ok (x0 := 3100) (by omega) (by omega) hf9
          have k9 : ∀ k, k < 252 → I9 186 k = I1 186 k := fun k q => (hA9.1 186 k (nm_lt3 q)).1
          have p9 : ∀ k, k < 252 → I9 186 (3100 + k) = I1 186 k := fun k q => by rw [hq9.1 186 (3100 + k) (sl252_at q).2, r3 k q]
          have hs9' : npI [(186, 5, 0, 999)] I9 := fun q hq => by
            rw [List.mem_singleton] at hq
            subst hq
            dsimp only
            rw [k9 5 (by omega)]
            exact hs _ List.mem_cons_self
          refine pq_s hB 4 (pc' := 71) (L' := [(5, .int 0), (3, .long 0), (0, .ref 185), (1, .int a0), (2, .int a1)]) (st' := []) (I' := I9) (J' := J9) (by with_unfolding_all rfl) ?_
          refine pq_perm (L := [(0, .ref 185), (1, .int a0), (2, .int a1), (3, .long 0), (5, .int 0)]) (leqn_of ⟨rfl, rfl, rfl, rfl, rfl, trivial⟩ ⟨rfl, rfl, rfl, rfl, rfl, trivial⟩ ⟨rfl, rfl, rfl, rfl, rfl, trivial⟩) ?_
          refine mean_l (N := N) hB ⟨c1.1, c1.2⟩ c4.2 (fun {n I J x3 x5} hn hk => ?_) N (by omega) (by decide) hO9 hs9' k9 p9
          refine pq_s hB 4 (pc' := 119) (L' := [(0, .ref 185), (1, .int a0), (2, .int a1), (3, .long x3), (5, .int x5)]) (st' := [.long (a1).toInt64, .long x3, .ref 185]) (I' := I) (J' := J) (by with_unfolding_all rfl) ?_
          refine pq_1 rfl rfl rfl rfl (f208_185_pq hB rfl) ?_
          rintro _ I11 J11 ⟨v11, rfl, hc11⟩
          have pbI : PB I := by
            obtain ⟨P, p1, p2⟩ := pb
            exact ⟨P, p1, (hk 2 (by omega)).trans p2⟩
          have f11 := f208_185_frU pbI hc11
          exact pq_2i (x := v11) rfl (fun k q => (f11.1 186 k (qu_out q)).trans (hk k q))
        · refine pq_s hB 2 (pc' := 55) (L' := [(0, .ref 185), (1, .int a0), (2, .int a1)]) (st' := [.int 6, .ref 185]) (I' := I1) (J' := J1) (by with_unfolding_all rfl) ?_
          generalize hc3 : f204_185 I1 J1 6 = q3
          obtain ⟨v3, I3', J3'⟩ := q3
          refine pq_1 rfl rfl rfl rfl (f204_185_pq hB hc3) ?_
          rintro _ I3 J3 ⟨rfl, rfl, rfl⟩
          exact pq_2i (x := v3) rfl (fun k _ => f204_sl hc3 k)
      · refine pq_s hB 2 (pc' := 37) (L' := [(0, .ref 185), (1, .int a0), (2, .int a1)]) (st' := [.int 1, .ref 185]) (I' := I1) (J' := J1) (by with_unfolding_all rfl) ?_
        exact out
end MN2
