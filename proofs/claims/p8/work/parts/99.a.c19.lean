/-! THE LAW'S LOOP: steps at the script -/
def nscX (y pc : Nat) (x : nS) : nX := bif Nat.beq y 356 then (match xmeth y with
  | some r => (match xat r.1 pc with
    | some e => (match e.1 with
      | .aload_n i => (match kfind x.1.2.1 i.val with
        | some v => bif mgV v 3 0 then some [(pc + 1, ((x.1.1, x.1.2.1, v :: x.1.2.2.1, x.1.2.2.2), x.2))] else none
        | none => none)
      | .pop2 => (match x.1.2.2.1 with
        | v :: S => bif Nat.beq v.1 1 then some [(pc + 1, ((x.1.1, x.1.2.1, S, x.1.2.2.2), x.2))] else none
        | _ => none)
      | .arraylength => (match x.1.2.2.1 with
        | v :: S => bif mgV v 3 0 && kz x.1.1 then (match kol x.1.2.2.2 999 0 4000 with
          | some u => bif Nat.beq u.1 0 then some [(pc + 1, ((x.1.1, x.1.2.1, u :: S, x.1.2.2.2), x.2))] else none
          | none => some [(pc + 1, ((x.1.1 ++ [(0, 3072)], x.1.2.1, (0, x.1.1.length, 0) :: S, ((999, 0, 4000), (0, x.1.1.length, 0)) :: x.1.2.2.2), x.2))]) else none
        | _ => none)
      | .iaload => (match x.1.2.2.1 with
        | j :: v :: S => bif (mgV v 3 0 && Nat.beq j.1 0) && kz x.1.1 then (match kol x.1.2.2.2 999 0 4000 with
          | some u => (match kiv x.1.1 j with
            | some b => bif decide (0 ≤ b.1) && kent x.1.1 x.2 ([(1, j.2.1), (-1, u.2.1)], u.2.2 - j.2.2 - 1) then (match kol x.1.2.2.2 999 j.2.1 j.2.2 with
              | some w => bif Nat.beq w.1 0 then some [(pc + 1, ((x.1.1, x.1.2.1, w :: S, x.1.2.2.2), x.2))] else none
              | none => some [(pc + 1, ((x.1.1 ++ [(kmin, kmax)], x.1.2.1, (0, x.1.1.length, 0) :: S, ((999, j.2.1, j.2.2), (0, x.1.1.length, 0)) :: x.1.2.2.2), x.2))]) else none
            | none => none)
          | none => none) else none
        | _ => none)
      | _ => none)
    | none => none)
  | none => none) else none
theorem kv_scr {ρ : List Int} {v : kV} {w : Value} (h : kv ρ v w) (hm : mgV v 3 0 = true) : w = .retAddr 0 := by
  obtain ⟨h1, h2⟩ := mgV_ok hm
  obtain ⟨t, i, c⟩ := v
  dsimp only at h1 h2
  subst h1 h2
  exact h
theorem nscX_ok {sc : List Int32} {ml : nMl} {Fr : kQ} (hl : sc.length ≤ 3072) : nXs (ktT ml) (nQ (ktN sc) Fr) sc nscX := by
  intro y r pc x outs ρ0 Q hy h hg
  obtain ⟨⟨E, L, S, O⟩, D⟩ := x
  unfold nscX at h
  obtain ⟨hy1, h⟩ := bif_n h
  rw [hy] at h
  dsimp only at h
  cases he : xat r.1 pc with
  | none => rw [he] at h; cases h
  | some e =>
    rw [he] at h
    dsimp only at h
    obtain ⟨ins, ea, eb, ez⟩ := e
    have len : ∀ I : tI, nScr sc I → (I 999 4000).toInt = (sc.length : Int) := fun I hI => by
      rw [hI 4000 (Or.inr rfl)]
      unfold scv
      rw [if_pos rfl]
      exact nI_toInt' (by omega)
    split at h
    · rename_i i hi
      dsimp only at hi
      subst hi
      split at h
      · rename_i v hv
        obtain ⟨hm, h⟩ := bif_n h
        cases h
        intro σ L' st B I J ⟨k1, k2, k3, k4⟩ hD hB hI
        obtain ⟨w, f, g⟩ := k2 _ v hv
        have e0 := kv_scr g hm
        subst e0
        refine sw_0 he rfl (?_ : x1 xty xdf sc _ pc L' st (tMem B I J) = some (pc + 1, L', .retAddr 0 :: st, tMem B I J)) (hg _ List.mem_cons_self σ L' (.retAddr 0 :: st) B I J ⟨k1, k2, ⟨_, _, rfl, g, k3⟩, k4⟩ hD hB hI)
        show xpA 1 pc i L' st (tMem B I J) = _
        unfold xpA
        rw [f]
        rfl
      · cases h
    · rename_i hi
      dsimp only at hi
      subst hi
      split at h
      · rename_i v S' hS
        obtain ⟨hm, h⟩ := bif_n h
        cases h
        intro σ L' st B I J ⟨k1, k2, k3, k4⟩ hD hB hI
        obtain ⟨w, st', rfl, g, k3⟩ := k3
        obtain ⟨t, i, c⟩ := v
        have e0 : t = 1 := Nat.eq_of_beq_eq_true hm
        subst e0
        obtain ⟨z, rfl, hz⟩ := g
        exact sw_s he rfl rfl rfl (hg _ List.mem_cons_self σ L' st' B I J ⟨k1, k2, k3, k4⟩ hD hB hI)
      · cases h
    · rename_i hi
      dsimp only at hi
      subst hi
      split at h
      · rename_i v S'
        obtain ⟨hm, h⟩ := bif_n h
        rw [Bool.and_eq_true] at hm
        split at h
        · rename_i u hu
          obtain ⟨ht, h⟩ := bif_n h
          cases h
          intro σ L' st B I J ⟨k1, k2, k3, k4⟩ hD hB hI
          obtain ⟨w, st', rfl, g, k3⟩ := k3
          have e0 := kv_scr g hm.1
          subst e0
          have hn := kol_ok (k := 4000) k4 hu (kz_ok k1 hm.2 (4000 : Int) 0)
          rw [len I hI.2.1.1.2] at hn
          obtain ⟨t, i, c⟩ := u
          have e0 := Nat.eq_of_beq_eq_true ht
          dsimp only at e0
          subst e0
          exact sw_0 he rfl (rfl : x1 xty xdf sc _ pc L' (.retAddr 0 :: st') _ = some (pc + 1, L', .int (Int32.ofNat sc.length) :: st', tMem B I J)) (hg _ List.mem_cons_self σ L' _ B I J ⟨k1, k2, ⟨_, _, rfl, ⟨_, rfl, by rw [nI_toInt' (by omega)]; exact hn⟩, k3⟩, k4⟩ hD hB hI)
        · cases h
          intro σ L' st B I J ⟨k1, k2, k3, k4⟩ hD hB hI
          obtain ⟨w, st', rfl, g, k3⟩ := k3
          have e0 := kv_scr g hm.1
          subst e0
          have new : knum (ρ0 ++ σ ++ [(sc.length : Int)]) (0, E.length, 0) (sc.length : Int) := ⟨_, kin_new k1, by simp⟩
          refine sw_0 he rfl (rfl : x1 xty xdf sc _ pc L' (.retAddr 0 :: st') _ = some (pc + 1, L', .int (Int32.ofNat sc.length) :: st', tMem B I J)) (hg _ List.mem_cons_self (σ ++ [(sc.length : Int)]) L' _ B I J ⟨?_, ?_, ⟨_, _, rfl, ⟨_, rfl, ?_⟩, ?_⟩, ?_⟩ ?_ hB hI)
          · rw [← List.append_assoc]; exact kin_app k1 (by dsimp only; omega) (by dsimp only; omega)
          · rw [← List.append_assoc]; exact kvl_ap k2
          · rw [← List.append_assoc, nI_toInt' (by omega)]; exact new
          · rw [← List.append_assoc]; exact kvs_ap k3
          · intro q hq
            rcases List.mem_cons.mp hq with rfl | hq
            · refine ⟨4000, ?_, ?_⟩
              · rw [← List.append_assoc]; exact knum_ap (kz_ok k1 hm.2 (4000 : Int) 0)
              · dsimp only
                rw [← List.append_assoc, len I hI.2.1.1.2]
                exact new
            · rw [← List.append_assoc]; exact kov_ap k4 q hq
          · rw [← List.append_assoc]; exact kfs_ap hD
      · cases h
    · rename_i hi
      dsimp only at hi
      subst hi
      split at h
      · rename_i j v S' hS
        obtain ⟨hm, h⟩ := bif_n h
        rw [Bool.and_eq_true, Bool.and_eq_true] at hm
        obtain ⟨⟨m1, m2⟩, m3⟩ := hm
        split at h
        · rename_i u hu
          split at h
          · rename_i b hb
            obtain ⟨hc, h⟩ := bif_n h
            rw [Bool.and_eq_true, decide_eq_true_eq] at hc
            have go : ∀ σ (L' : xL) st B (I : tI) J, kst (ρ0 ++ σ) (E, L, j :: v :: S', O) L' st I → kfs (ρ0 ++ σ) D → kI (ktT ml) (nQ (ktN sc) Fr) B I J → ∃ (q : Int32) (st' : List Value), st = .int q :: .retAddr 0 :: st' ∧ knum (ρ0 ++ σ) j q.toInt ∧ kvs (ρ0 ++ σ) S' st' ∧ q.toNatClampNeg < sc.length ∧ (q.toNatClampNeg : Int) = q.toInt ∧ x1 xty xdf sc (.iaload, ea, eb, ez) pc L' st (tMem B I J) = some (pc + 1, L', .int (I 999 q.toNatClampNeg) :: st', tMem B I J) := fun σ L' st B I J ⟨k1, k2, k3, k4⟩ hD hI => by
              obtain ⟨wj, stj, rfl, gj, w, st', rfl, g, k3⟩ := k3
              have e0 := kv_scr g m1
              subst e0
              obtain ⟨q, rfl, hq⟩ := kv_int gj m2
              have hn := kol_ok (k := 4000) k4 hu (kz_ok k1 m3 (4000 : Int) 0)
              rw [len I hI.2.1.1.2] at hn
              have hjb := kiv_in k1 hq hb
              obtain ⟨s, s1, s2⟩ := kent_ok k1 hD hc.2
              obtain ⟨z, z1, z2⟩ := id hq
              obtain ⟨z', z1', z2'⟩ := hn
              rw [kls_two z1 z1'] at s1
              cases s1
              dsimp only at s2
              have e1 : q.toNatClampNeg = q.toInt.toNat := rfl
              have hlt : q.toNatClampNeg < sc.length := by omega
              refine ⟨q, st', rfl, hq, k3, hlt, by omega, ?_⟩
              show (match xix q sc.length with
                | some i => some (pc + 1, L', Value.int (sc.getD i 0) :: st', tMem B I J)
                | none => none) = _
              rw [xix_yes (ti_pos (by omega)) hlt]
              dsimp only
              rw [hI.2.1.1.2 q.toNatClampNeg (Or.inl hlt)]
              unfold scv
              rw [if_neg (by omega)]
            split at h
            · rename_i w hw
              obtain ⟨ht, h⟩ := bif_n h
              cases h
              intro σ L' st B I J hs hD hB hI
              obtain ⟨q, st', rfl, hq, k3', hlt, e2, hx⟩ := go σ L' st B I J hs hD hI
              obtain ⟨k1, k2, -, k4⟩ := hs
              have hkn : knum (ρ0 ++ σ) (0, j.2.1, j.2.2) (q.toNatClampNeg : Int) := by
                rw [e2]
                obtain ⟨z, z1, z2⟩ := hq
                exact ⟨z, z1, z2⟩
              have hv := kol_ok k4 hw hkn
              obtain ⟨t, i, c⟩ := w
              have e0 := Nat.eq_of_beq_eq_true ht
              dsimp only at e0
              subst e0
              exact sw_0 he rfl hx (hg _ List.mem_cons_self σ L' _ B I J ⟨k1, k2, ⟨_, _, rfl, ⟨_, rfl, hv⟩, k3'⟩, k4⟩ hD hB hI)
            · cases h
              intro σ L' st B I J hs hD hB hI
              obtain ⟨q, st', rfl, hq, k3', hlt, e2, hx⟩ := go σ L' st B I J hs hD hI
              obtain ⟨k1, k2, -, k4⟩ := hs
              have hkn : knum (ρ0 ++ σ) (0, j.2.1, j.2.2) (q.toNatClampNeg : Int) := by
                rw [e2]
                obtain ⟨z, z1, z2⟩ := hq
                exact ⟨z, z1, z2⟩
              have bd := ti_bd (I 999 q.toNatClampNeg)
              have new : knum (ρ0 ++ σ ++ [(I 999 q.toNatClampNeg).toInt]) (0, E.length, 0) (I 999 q.toNatClampNeg).toInt := ⟨_, kin_new k1, by simp⟩
              refine sw_0 he rfl hx (hg _ List.mem_cons_self (σ ++ [(I 999 q.toNatClampNeg).toInt]) L' _ B I J ⟨?_, ?_, ⟨_, _, rfl, ⟨_, rfl, ?_⟩, ?_⟩, ?_⟩ ?_ hB hI)
              · rw [← List.append_assoc]; exact kin_app k1 bd.1 bd.2
              · rw [← List.append_assoc]; exact kvl_ap k2
              · rw [← List.append_assoc]; exact new
              · rw [← List.append_assoc]; exact kvs_ap k3'
              · intro p hp
                rcases List.mem_cons.mp hp with rfl | hp
                · refine ⟨q.toNatClampNeg, ?_, ?_⟩
                  · rw [← List.append_assoc]; exact knum_ap hkn
                  · rw [← List.append_assoc]; exact new
                · rw [← List.append_assoc]; exact kov_ap k4 p hp
              · rw [← List.append_assoc]; exact kfs_ap hD
          · cases h
        · cases h
      · cases h
    · cases h
/-- the law's loop: from behind the constructors it answers 1 -/
def lwchk (ml : nMl) (K : List nC) (W : nOr) (f : Nat) : Bool := match xmeth 356 with
  | some r => (match nexec (ktT ml) ml K W f [] 356 r 18 (([(0, 0), (0, 999)], [(3, (0, 0, 0)), (2, (2, 185, 0)), (1, (2, 0, 0)), (0, (3, 0, 0))], [], [((186, 0, 5), (0, 1, 0))]), []) with
    | some outs => outs.all (fun q => match q.1.2.1 with
      | some v => Nat.beq v.1 0 && (match kiv q.1.1 v with
        | some b => decide (b = (1, 1))
        | none => false)
      | none => false)
    | none => false)
  | none => false
theorem lwchk_ok {sc : List Int32} {ml : nMl} {K : List nC} {W : nOr} {f : Nat} (hK : ∀ c ∈ K, nCon (ktN sc) sc c) (hX : ∀ Fr, nFr ml Fr → nXs (ktT ml) (nQ (ktN sc) Fr) sc W.1) (h : lwchk ml K W f = true) {r : xR} (hr : xmeth 356 = some r) {B : xM} {I : tI} {J : tJ} (hO : nOk (ktN sc) B I) (h5 : (I 186 5).toInt ≤ 999) : sw sc r 18 [(3, .int 0), (2, .ref 185), (1, .ref 0), (0, .retAddr 0)] [] (tMem B I J) (fun v M' => v = some (.int 1) ∧ ∃ B' I' J', M' = tMem B' I' J' ∧ kSz B B') := by
  unfold lwchk at h
  rw [hr] at h
  dsimp only at h
  split at h
  · rename_i outs ho
    have hF : nFr ml (fun B' _ _ => kSz B B') := fun _ _ _ _ _ _ h1 h2 => ⟨h2.2.2.1.trans h1.1, h2.2.2.2.trans h1.2⟩
    have b5 := (hO.2.1 186 (20, 3972) 5 rfl (by decide) rfl).1
    have b5 : 0 ≤ (I 186 5).toInt := b5
    refine nexec_ok (t := ktN sc) hF hK (hX _ hF) f [] 356 r 18 _ outs hr ho [0, (I 186 5).toInt] _ (fun v M' hp => ?_) (fun a ha => by cases ha) [] _ [] B I J ⟨?_, ?_, rfl, ?_⟩ (fun f hf => by cases hf) hO.1 ⟨hO.2.1, ⟨hO.2.2, rfl, rfl⟩, nLaw ktN_cl hF⟩
    · obtain ⟨q, hq, σ, B', I', J', e, hB', hI', k1, k2, kD, k3⟩ := hp
      have hh := List.all_eq_true.mp h q hq
      split at hh
      · rename_i u hu
        rw [hu] at k3
        obtain ⟨w, rfl, hw⟩ := k3
        rw [Bool.and_eq_true] at hh
        obtain ⟨y, rfl, hyn⟩ := kv_int hw hh.1
        have hb := hh.2
        split at hb
        · rename_i b hbv
          have := kiv_in k1 hyn hbv
          rw [of_decide_eq_true hb] at this
          dsimp only at this
          have ey : y = 1 := i32_eq (by have e : (1 : Int32).toInt = 1 := rfl; omega)
          subst ey
          exact ⟨rfl, B', I', J', e, hI'.2.1.2⟩
        · cases hb
      · cases hh
    · exact ⟨⟨Int.le_refl _, Int.le_refl _⟩, ⟨b5, h5⟩, trivial⟩
    · intro j v hv
      simp only [kfind] at hv
      cases h3 : Nat.beq 3 j with
      | true => rw [h3] at hv; cases hv; have := Nat.eq_of_beq_eq_true h3; subst this; exact ⟨_, rfl, ⟨0, rfl, ⟨0, rfl, rfl⟩⟩⟩
      | false =>
        rw [h3] at hv
        cases h2 : Nat.beq 2 j with
        | true => rw [h2] at hv; cases hv; have := Nat.eq_of_beq_eq_true h2; subst this; exact ⟨_, rfl, rfl⟩
        | false =>
          rw [h2] at hv
          cases h1 : Nat.beq 1 j with
          | true => rw [h1] at hv; cases hv; have := Nat.eq_of_beq_eq_true h1; subst this; exact ⟨_, rfl, rfl⟩
          | false =>
            rw [h1] at hv
            cases h0 : Nat.beq 0 j with
            | true => rw [h0] at hv; cases hv; have := Nat.eq_of_beq_eq_true h0; subst this; exact ⟨_, rfl, rfl⟩
            | false => rw [h0] at hv; cases hv
    · intro q hq
      rw [List.mem_singleton] at hq
      subst hq
      exact ⟨5, ⟨0, rfl, rfl⟩, ⟨_, rfl, by simp⟩⟩
  · cases h
