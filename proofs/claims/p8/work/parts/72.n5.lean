/-! ROWS OF REFERENCES, REFERENCES THAT ARE ONE OF TWO, COPIES OF ROWS -/
theorem xarr_no {M : xM} {a k k' : Nat} {sl : List Value} (h : xarr M a k = some sl) (hk : Nat.beq k k' = false) : xarr M a k' = none := by
  have := xarr_nth h
  unfold xarr
  rw [this]
  dsimp only
  rw [hk]
  rfl
def nal (T : kT) (E : kE) (j : kV) (o pc : Nat) (L : kL) (S : List kV) (O : kO) (D : List kF) : Nat → Nat → nX
  | a, 0 => bif Nat.beq (T.b o a).1 2 then some (nopt (kref E j (a : Int) (a : Int)) pc L ((2, (T.b o a).2.1.toNat, 0) :: S) O D) else none
  | a, n + 1 => bif Nat.beq (T.b o a).1 2 then (match nal T E j o pc L S O D (a + 1) n with
    | some l => some (nopt (kref E j (a : Int) (a : Int)) pc L ((2, (T.b o a).2.1.toNat, 0) :: S) O D ++ l)
    | none => none) else none
theorem nal_in {T : kT} {E : kE} {j : kV} {o pc : Nat} {L : kL} {S : List kV} {O : kO} {D : List kF} : ∀ (n a : Nat) {outs : List (Nat × nS)}, nal T E j o pc L S O D a n = some outs → ∀ k, a ≤ k → k ≤ a + n → (T.b o k).1 = 2 ∧ ∀ E', kref E j (k : Int) (k : Int) = some E' → (pc, ((E', L, (2, (T.b o k).2.1.toNat, 0) :: S, O), D)) ∈ outs
  | 0, a, outs, h, k, h1, h2 => by
    have e : k = a := by omega
    subst e
    simp only [nal] at h
    cases hb : Nat.beq (T.b o k).1 2 with
    | false => rw [hb] at h; cases h
    | true => rw [hb] at h; cases h; exact ⟨Nat.eq_of_beq_eq_true hb, fun E' e => nopt_in e⟩
  | n + 1, a, outs, h, k, h1, h2 => by
    simp only [nal] at h
    cases hb : Nat.beq (T.b o a).1 2 with
    | false => rw [hb] at h; cases h
    | true =>
      rw [hb] at h
      simp only [cond_true] at h
      split at h
      · rename_i l hl
        cases h
        by_cases e : k = a
        · subst e
          exact ⟨Nat.eq_of_beq_eq_true hb, fun E' e => List.mem_append_left _ (nopt_in e)⟩
        · obtain ⟨g1, g2⟩ := nal_in n (a + 1) hl k (by omega) (by omega)
          exact ⟨g1, fun E' e => List.mem_append_right _ (g2 E' e)⟩
      · cases h
def naald (T : kT) (pc : Nat) (x : nS) : nX := match x.1.2.2.1 with
  | j :: v :: S => (match kix T 23 x.1.1 j v with
    | some q => bif Nat.ble q.2.2.1 8 then nal T x.1.1 j q.1 (pc + 1) x.1.2.1 S x.1.2.2.2 x.2 q.2.1 q.2.2.1 else none
    | none => (match kix T 24 x.1.1 j v with
      | some q => bif Nat.ble q.2.2.1 8 then nal T x.1.1 j q.1 (pc + 1) x.1.2.1 S x.1.2.2.2 x.2 q.2.1 q.2.2.1 else none
      | none => none))
  | _ => none
section NM
variable {T : kT} {C : kQ} {sc : List Int32} {r : xR} {ρ0 : List Int} {pc : Nat} {D : List kF} {Q : Option Value → xM → Prop} {outs : List (Nat × nS)} {e : xE} {x : nS}
theorem naald_ok (he : xat r.1 pc = some (.aaload, 0, 0, 0)) (h : naald T pc x = some outs) (hg : ∀ q ∈ outs, nG T C sc r ρ0 q.1 q.2 Q) : nG T C sc r ρ0 pc x Q := by
  obtain ⟨⟨E, L, S, O⟩, D⟩ := x
  unfold naald at h
  dsimp only at h
  split at h
  · rename_i j v S'
    have key : ∀ c, (c = 23 ∨ c = 24) → ∀ q, kix T c E j v = some q → nal T E j q.1 (pc + 1) L S' O D q.2.1 q.2.2.1 = some outs → nG T C sc r ρ0 pc ((E, L, j :: v :: S', O), D) Q := fun c hc q hq hn => by
      intro σ L' st B I J ⟨h1, h2, h3, h4⟩ hD hB hI
      obtain ⟨w1, st1, rfl, g1, w2, st2, rfl, g2, h3⟩ := h3
      obtain ⟨i, m, rfl, rfl, k1, k2, k3, k4, k5, k6, k7, k8, k9⟩ := kix_ok h1 g1 g2 hq
      obtain ⟨m1, m2⟩ := nal_in _ _ hn i.toNatClampNeg k4 k5
      obtain ⟨E', e1, e2⟩ := kref_ok (lo := (i.toNatClampNeg : Int)) (hi := (i.toNatClampNeg : Int)) h1 k7 (by omega) (by omega)
      obtain ⟨sl, u1, u2⟩ := tget_r (I := I) (J := J) (kB_ref hB k1 k2 m1)
      have hl : i.toNatClampNeg < sl.length := flen_some u2
      refine sw_0 he rfl (show _ = some (pc + 1, L', .ref (T.b q.1 i.toNatClampNeg).2.1.toNat :: st2, tMem B I J) from ?_) (hg _ (m2 E' e1) σ L' _ B I J ⟨e2, h2, ⟨_, _, rfl, rfl, h3⟩, h4⟩ hD hB hI)
      have hx : xald c pc L' (.int i :: .ref q.1 :: st2) (tMem B I J) = some (pc + 1, L', .ref (T.b q.1 i.toNatClampNeg).2.1.toNat :: st2, tMem B I J) := by
        unfold xald
        dsimp only
        rw [u1]
        dsimp only
        rw [xix_yes (ti_pos k3) hl]
        dsimp only
        rw [u2]
      rcases hc with rfl | rfl
      · show (match xald 23 pc L' (.int i :: .ref q.1 :: st2) (tMem B I J) with
          | some q => some q
          | none => xald 24 pc L' (.int i :: .ref q.1 :: st2) (tMem B I J)) = _
        rw [hx]
      · show (match xald 23 pc L' (.int i :: .ref q.1 :: st2) (tMem B I J) with
          | some q => some q
          | none => xald 24 pc L' (.int i :: .ref q.1 :: st2) (tMem B I J)) = _
        have hn : xald 23 pc L' (.int i :: .ref q.1 :: st2) (tMem B I J) = none := by
          unfold xald
          dsimp only
          rw [xarr_no u1 rfl]
        rw [hn, hx]
    split at h
    · rename_i q hq
      cases hb : Nat.ble q.2.2.1 8 with
      | false => rw [hb] at h; cases h
      | true => rw [hb] at h; exact key 23 (Or.inl rfl) q hq h
    · split at h
      · rename_i q hq
        cases hb : Nat.ble q.2.2.1 8 with
        | false => rw [hb] at h; cases h
        | true => rw [hb] at h; exact key 24 (Or.inr rfl) q hq h
      · cases h
  · cases h
/-- a field that is one of two objects -/
def ngetw (T : kT) (c k pc : Nat) (x : nS) : nX := match x.1.2.2.1 with
  | v :: S => bif Nat.beq v.1 2 then (match T.k v.2.1 with
    | some cm => bif (Nat.beq cm.1 c && Nat.blt k cm.2) && Nat.beq (T.b v.2.1 k).1 4 then some [(pc + 3, ((x.1.1, x.1.2.1, (2, (T.b v.2.1 k).2.1.toNat, 0) :: S, x.1.2.2.2), x.2)), (pc + 3, ((x.1.1, x.1.2.1, (2, (T.b v.2.1 k).2.2.toNat, 0) :: S, x.1.2.2.2), x.2))] else none
    | none => none) else none
  | _ => none
theorem ngetw_ok {i c k : Nat} {z : Int} (he : xat r.1 pc = some (.getfield i, c, k, z)) (h : ngetw T c k pc x = some outs) (hg : ∀ q ∈ outs, nG T C sc r ρ0 q.1 q.2 Q) : nG T C sc r ρ0 pc x Q := by
  obtain ⟨⟨E, L, S, O⟩, D⟩ := x
  unfold ngetw at h
  dsimp only at h
  split at h
  · rename_i v S'
    cases hb : Nat.beq v.1 2 with
    | false => rw [hb] at h; cases h
    | true =>
      rw [hb] at h
      simp only [cond_true] at h
      split at h
      · rename_i cm hcm
        cases hc : ((Nat.beq cm.1 c && Nat.blt k cm.2) && Nat.beq (T.b v.2.1 k).1 4) with
        | false => rw [hc] at h; cases h
        | true =>
          rw [hc] at h
          cases h
          rw [Bool.and_eq_true, Bool.and_eq_true] at hc
          intro σ L' st B I J ⟨h1, h2, h3, h4⟩ hD hB hI
          obtain ⟨w1, st1, rfl, g1, h3⟩ := h3
          obtain ⟨t1, o, c1⟩ := v
          have e1 := Nat.eq_of_beq_eq_true hb
          dsimp only at e1 hcm hc
          subst e1
          have e2 : w1 = .ref o := g1
          subst e2
          obtain ⟨sl, b1, b2, b3⟩ := hB o _ hcm
          obtain ⟨v, b4, -, -, -, b5⟩ := b3 k (Nat.blt_eq.mp hc.1.2)
          have e3 := Nat.eq_of_beq_eq_true hc.1.1
          rw [e3] at b1
          have tr : ∀ a, v = .ref a → tRef B o c k a = true := fun a ea => by
            unfold tRef
            rw [b1]
            dsimp only
            rw [b4, ea]
            exact Nat.beq_refl _
          rcases b5 (Nat.eq_of_beq_eq_true hc.2) with ev | ev
          · exact te_getr he (tr _ ev) (hg _ List.mem_cons_self σ L' _ B I J ⟨h1, h2, ⟨_, _, rfl, rfl, h3⟩, h4⟩ hD hB hI)
          · exact te_getr he (tr _ ev) (hg _ (List.mem_cons_of_mem _ List.mem_cons_self) σ L' _ B I J ⟨h1, h2, ⟨_, _, rfl, rfl, h3⟩, h4⟩ hD hB hI)
      · cases h
  · cases h
end NM
theorem tS_setR {I : tI} {J : tJ} {o a : Nat} : ∀ (k : Nat) (l : List Value) (i : Nat), (tS I J o k l).set i (.ref a) = tS I J o k (l.set i (.ref a))
  | _, [], _ => rfl
  | k, w :: l, 0 => rfl
  | k, w :: l, i + 1 => by
    simp only [tS, List.set_cons_succ]
    rw [tS_setR (k + 1) l i]
theorem tM_setR {I : tI} {J : tJ} {c : Nat} {l : List Value} : ∀ (o : Nat) (M : xM) (a : Nat), (tM I J o M).set a (c, tS I J (o + a) 0 l) = tM I J o (M.set a (c, l))
  | _, [], _ => rfl
  | o, q :: M, 0 => rfl
  | o, q :: M, a + 1 => by
    simp only [tM, List.set_cons_succ]
    rw [show o + (a + 1) = o + 1 + a by omega, tM_setR (o + 1) M a]
def nputw (T : kT) (c k pc : Nat) (x : nS) : nX := match x.1.2.2.1 with
  | u :: v :: S => bif (Nat.beq u.1 2 && Nat.beq v.1 2) && T.m 1000 0 then (match T.k v.2.1 with
    | some cm => bif (Nat.beq cm.1 c && Nat.blt k cm.2) && (Nat.beq (T.b v.2.1 k).1 4 && ((Nat.beq u.2.1 (T.b v.2.1 k).2.1.toNat || Nat.beq u.2.1 (T.b v.2.1 k).2.2.toNat) && xfit (xty c k) (.ref 0))) then some [(pc + 3, ((x.1.1, x.1.2.1, S, x.1.2.2.2), x.2))] else none
    | none => none) else none
  | _ => none
theorem xfit_ref {ty : FieldType} {a b : Nat} (h : xfit ty (.ref a) = true) : xfit ty (.ref b) = true := by
  cases ty <;> first | exact h | rfl
section NM2
variable {T : kT} {C : kQ} {sc : List Int32} {r : xR} {ρ0 : List Int} {pc : Nat} {D : List kF} {Q : Option Value → xM → Prop} {outs : List (Nat × nS)} {e : xE} {x : nS}
theorem nputw_ok {i c k : Nat} {z : Int} (he : xat r.1 pc = some (.putfield i, c, k, z)) (h : nputw T c k pc x = some outs) (hg : ∀ q ∈ outs, nG T C sc r ρ0 q.1 q.2 Q) : nG T C sc r ρ0 pc x Q := by
  obtain ⟨⟨E, L, S, O⟩, D⟩ := x
  unfold nputw at h
  dsimp only at h
  split at h
  · rename_i u v S'
    cases hb : ((Nat.beq u.1 2 && Nat.beq v.1 2) && T.m 1000 0) with
    | false => rw [hb] at h; cases h
    | true =>
      rw [hb] at h
      simp only [cond_true] at h
      rw [Bool.and_eq_true, Bool.and_eq_true] at hb
      split at h
      · rename_i cm hcm
        cases hc : ((Nat.beq cm.1 c && Nat.blt k cm.2) && (Nat.beq (T.b v.2.1 k).1 4 && ((Nat.beq u.2.1 (T.b v.2.1 k).2.1.toNat || Nat.beq u.2.1 (T.b v.2.1 k).2.2.toNat) && xfit (xty c k) (.ref 0)))) with
        | false => rw [hc] at h; cases h
        | true =>
          rw [hc] at h
          cases h
          simp only [Bool.and_eq_true, Bool.or_eq_true] at hc
          obtain ⟨⟨c1, c2⟩, c3, c4, c5⟩ := hc
          intro σ L' st B I J ⟨h1, h2, h3, h4⟩ hD hB hI
          obtain ⟨w0, st0, rfl, g0, w1, st1, rfl, g1, h3⟩ := h3
          obtain ⟨t0, a, d0⟩ := u
          obtain ⟨t1, o, d1⟩ := v
          have e0 := Nat.eq_of_beq_eq_true hb.1.1
          have e1 := Nat.eq_of_beq_eq_true hb.1.2
          dsimp only at e0 e1 hcm c2 c3 c4
          subst e0 e1
          have e2 : w0 = .ref a := g0
          have e3 : w1 = .ref o := g1
          subst e2 e3
          obtain ⟨cn, m⟩ := cm
          have e4 := Nat.eq_of_beq_eq_true c1
          dsimp only at e4
          subst e4
          obtain ⟨sl, b1, b2, b3⟩ := hB o _ hcm
          have hk := Nat.blt_eq.mp c2
          have hB' : kB T (B.set o (cn, sl.set k (.ref a))) := by
            intro o' kn hkn
            obtain ⟨sl', d1, d2, d3⟩ := hB o' kn hkn
            by_cases eo : o' = o
            · subst eo
              rw [hcm] at hkn
              cases hkn
              rw [b1] at d1
              cases d1
              refine ⟨sl.set k (.ref a), ?_, by rw [List.length_set]; exact d2, fun k' hk' => ?_⟩
              · unfold xarr
                rw [xnth_eq, List.getElem?_set_self (by have := xarr_nth b1; rw [xnth_eq] at this; exact (List.getElem?_eq_some_iff.mp this).1)]
                dsimp only
                rw [Nat.beq_refl]
                rfl
              · obtain ⟨v, v1, v2, v3, v4, v5⟩ := d3 k' hk'
                by_cases ek : k' = k
                · subst ek
                  refine ⟨.ref a, by rw [xnth_eq, List.getElem?_set_self (by dsimp only at d2 hk'; omega)], ?_, ?_, ?_, ?_⟩
                  · intro q; rw [Nat.eq_of_beq_eq_true c3] at q; cases q
                  · intro q; rw [Nat.eq_of_beq_eq_true c3] at q; cases q
                  · intro q; rw [Nat.eq_of_beq_eq_true c3] at q; cases q
                  · intro q
                    rcases c4 with c4 | c4
                    · exact Or.inl (by rw [← Nat.eq_of_beq_eq_true c4])
                    · exact Or.inr (by rw [← Nat.eq_of_beq_eq_true c4])
                · refine ⟨v, ?_, v2, v3, v4, v5⟩
                  rw [xnth_eq, List.getElem?_set_ne (fun q => ek q.symm), ← xnth_eq]
                  exact v1
            · refine ⟨sl', ?_, d2, d3⟩
              unfold xarr at d1 ⊢
              rw [xnth_eq] at d1 ⊢
              rw [List.getElem?_set_ne (fun q => eo q.symm)]
              exact d1
          have hm : xwr (tMem B I J) o cn k (tS I J o 0 sl) (.ref a) = tMem (B.set o (cn, sl.set k (.ref a))) I J := by
            unfold xwr tMem
            rw [tS_setR]
            have := tM_setR (I := I) (J := J) (c := cn) (l := sl.set k (.ref a)) 0 B o
            rw [Nat.zero_add] at this
            exact this
          refine sw_0 he rfl ?_ (hg _ List.mem_cons_self σ L' st1 (B.set o (cn, sl.set k (.ref a))) I J ⟨h1, h2, h3, h4⟩ hD hB' ⟨hI.1, hI.2.2.2 hb.2 B I J _ ⟨List.length_set, kxz_set (xarr_nth b1) List.length_set⟩ hI.2.1, hI.2.2⟩)
          show xput xty cn k pc L' (.ref a :: .ref o :: st1) (tMem B I J) = _
          unfold xput
          dsimp only
          rw [xfit_ref c5]
          simp only [cond_true]
          rw [tarr b1]
          dsimp only
          rw [tS_len, Nat.blt_eq.mpr (by dsimp only at b2; omega)]
          simp only [cond_true]
          rw [hm]
      · cases h
  · cases h
end NM2
