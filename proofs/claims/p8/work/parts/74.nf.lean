/-! MORE STEPS OF ONE'S OWN: loads by residues, products with facts, letters, short cuts -/
def njn (T : kT) (p : Nat → Bool) (o : Nat) : Nat → Nat → Int × Int → Option (Int × Int)
  | a, 0, w => bif p a then (bif Nat.beq (T.b o a).1 0 then some (min (T.b o a).2.1 w.1, max (T.b o a).2.2 w.2) else none) else some w
  | a, n + 1, w => bif p a then (bif Nat.beq (T.b o a).1 0 then njn T p o (a + 1) n (min (T.b o a).2.1 w.1, max (T.b o a).2.2 w.2) else none) else njn T p o (a + 1) n w
theorem njn_ok {T : kT} {p : Nat → Bool} {o : Nat} : ∀ (n a : Nat) {w w' : Int × Int}, njn T p o a n w = some w' → (w'.1 ≤ w.1 ∧ w.2 ≤ w'.2) ∧ ∀ k, a ≤ k → k ≤ a + n → p k = true → (T.b o k).1 = 0 ∧ w'.1 ≤ (T.b o k).2.1 ∧ (T.b o k).2.2 ≤ w'.2
  | 0, a, w, w', h => by
    simp only [njn] at h
    cases hp : p a with
    | false =>
      rw [hp] at h
      cases h
      refine ⟨⟨Int.le_refl _, Int.le_refl _⟩, fun k h1 h2 h3 => ?_⟩
      have e : k = a := by omega
      rw [e, hp] at h3
      cases h3
    | true =>
      rw [hp] at h
      simp only [cond_true] at h
      cases hb : Nat.beq (T.b o a).1 0 with
      | false => rw [hb] at h; cases h
      | true =>
        rw [hb] at h
        cases h
        refine ⟨⟨Int.min_le_right _ _, Int.le_max_right _ _⟩, fun k h1 h2 h3 => ?_⟩
        have e : k = a := by omega
        subst e
        exact ⟨Nat.eq_of_beq_eq_true hb, Int.min_le_left _ _, Int.le_max_left _ _⟩
  | n + 1, a, w, w', h => by
    simp only [njn] at h
    cases hp : p a with
    | false =>
      rw [hp] at h
      obtain ⟨h1, h2⟩ := njn_ok n (a + 1) h
      refine ⟨h1, fun k k1 k2 k3 => ?_⟩
      by_cases e : k = a
      · rw [e, hp] at k3; cases k3
      · exact h2 k (by omega) (by omega) k3
    | true =>
      rw [hp] at h
      simp only [cond_true] at h
      cases hb : Nat.beq (T.b o a).1 0 with
      | false => rw [hb] at h; cases h
      | true =>
        rw [hb] at h
        obtain ⟨h1, h2⟩ := njn_ok n (a + 1) h
        dsimp only at h1
        refine ⟨⟨Int.le_trans h1.1 (Int.min_le_right _ _), Int.le_trans (Int.le_max_right _ _) h1.2⟩, fun k k1 k2 k3 => ?_⟩
        by_cases e : k = a
        · subst e
          exact ⟨Nat.eq_of_beq_eq_true hb, Int.le_trans h1.1 (Int.min_le_left _ _), Int.le_trans (Int.le_max_left _ _) h1.2⟩
        · exact h2 k (by omega) (by omega) k3
def nisA (e : xE) : Bool := match e.1 with
  | .iaload => kz4 e
  | _ => false
theorem nisA_ok {e : xE} (h : nisA e = true) : e = (.iaload, 0, 0, 0) := by
  obtain ⟨i, a, b, z⟩ := e
  cases i <;> first | (cases h; done) | skip
  obtain ⟨rfl, rfl, rfl⟩ := kz4_ok h
  rfl
def nldX (T : kT) (P : Nat → Nat → Bool) : Nat → Nat → nS → nX := fun y pc x => bif P y pc then (match xmeth y with
  | some r => (match xat r.1 pc with
    | some e => (match x.1.2.2.1 with
      | j :: v :: S => bif nisA e && (Nat.beq j.1 0 && Nat.beq v.1 2) then (match T.k v.2.1 with
        | some cm => (match kiv x.1.1 j with
          | some b => bif (Nat.beq cm.1 20 && decide (0 ≤ b.1)) && (decide (b.2 < (cm.2 : Int)) && decide (b.1 < b.2)) then (match kol x.1.2.2.2 v.2.1 j.2.1 j.2.2 with
            | some _ => none
            | none => (match ncgf x.2 j.2.1 x.2 with
              | some g => (match njn T (nrs (some g) j.2.2) v.2.1 b.1.toNat (b.2 - b.1).toNat (0, 0) with
                | some w => some [(pc + 1, ((x.1.1 ++ [w], x.1.2.1, (0, x.1.1.length, 0) :: S, ((v.2.1, j.2.1, j.2.2), (0, x.1.1.length, 0)) :: x.1.2.2.2), x.2))]
                | none => none)
              | none => none)) else none
          | none => none)
        | none => none) else none
      | _ => none)
    | none => none)
  | none => none) else none
theorem nldX_ok {T : kT} {C : kQ} {sc : List Int32} {P : Nat → Nat → Bool} : nXs T C sc (nldX T P) := by
  intro y r pc x outs ρ0 Q hy h hg
  obtain ⟨⟨E, L, S, O⟩, D⟩ := x
  unfold nldX at h
  cases hP : P y pc with
  | false => rw [hP] at h; cases h
  | true =>
    rw [hP, hy] at h
    simp only [cond_true] at h
    cases he : xat r.1 pc with
    | none => rw [he] at h; cases h
    | some e =>
      rw [he] at h
      dsimp only at h
      split at h
      · rename_i j v S'
        cases hb : (nisA e && (Nat.beq j.1 0 && Nat.beq v.1 2)) with
        | false => rw [hb] at h; cases h
        | true =>
          rw [hb] at h
          simp only [cond_true] at h
          simp only [Bool.and_eq_true] at hb
          obtain ⟨b1, b3, b4⟩ := hb
          have e0 := nisA_ok b1
          subst e0
          obtain ⟨tj, ji, jc⟩ := j
          obtain ⟨tv, o, d⟩ := v
          have e2 := Nat.eq_of_beq_eq_true b3
          have e3 := Nat.eq_of_beq_eq_true b4
          dsimp only at e2 e3 h
          subst e2 e3
          split at h
          · rename_i cm hcm
            split at h
            · rename_i b hbj
              cases hc : ((Nat.beq cm.1 20 && decide (0 ≤ b.1)) && (decide (b.2 < (cm.2 : Int)) && decide (b.1 < b.2))) with
              | false => rw [hc] at h; cases h
              | true =>
                rw [hc] at h
                simp only [cond_true] at h
                simp only [Bool.and_eq_true, decide_eq_true_eq] at hc
                obtain ⟨⟨c1, c2⟩, c3, c4⟩ := hc
                split at h
                · cases h
                · split at h
                  · rename_i g hgf
                    split at h
                    · rename_i w hw
                      cases h
                      obtain ⟨c0, m⟩ := cm
                      have c1 := Nat.eq_of_beq_eq_true c1
                      dsimp only at c1 c3
                      subst c1
                      intro σ L' st B I J ⟨k1, k2, k3, k4⟩ hD hB hI
                      obtain ⟨w0, st0, rfl, g0, w1, st', rfl, g1, k3⟩ := k3
                      have e : w1 = .ref o := g1
                      subst e
                      obtain ⟨q, rfl, hq⟩ := id g0
                      obtain ⟨q1, q2, q3⟩ := kk_idx k1 hq hbj c2
                      have hxb := kiv_in k1 hq hbj
                      have hlt : q.toNatClampNeg < m := by omega
                      have hkn : knum (ρ0 ++ σ) (0, ji, jc) (q.toNatClampNeg : Int) := by rw [q1]; exact hq
                      have hr := nrs_ok hD hkn
                      rw [hgf] at hr
                      obtain ⟨m1, m2, m3⟩ := (njn_ok _ _ hw).2 q.toNatClampNeg q2 q3 hr
                      have hbd := hI.1 o _ q.toNatClampNeg hcm hlt m1
                      have hn : knum (ρ0 ++ (σ ++ [(I o q.toNatClampNeg).toInt])) (0, E.length, 0) (I o q.toNatClampNeg).toInt := ⟨(I o q.toNatClampNeg).toInt, by rw [← List.append_assoc]; exact kin_new k1, by simp⟩
                      refine tx_iald he (kB_slot hB hcm hlt m1) (by omega) (hg _ List.mem_cons_self (σ ++ [(I o q.toNatClampNeg).toInt]) L' _ B I J ⟨?_, ?_, ⟨_, _, rfl, ⟨_, rfl, hn⟩, ?_⟩, ?_⟩ ?_ hB hI)
                      · rw [← List.append_assoc]; exact kin_app k1 (Int.le_trans m2 hbd.1) (Int.le_trans hbd.2 m3)
                      · rw [← List.append_assoc]; exact kvl_ap k2
                      · rw [← List.append_assoc]; exact kvs_ap k3
                      · intro q' hq'
                        rcases List.mem_cons.mp hq' with rfl | hq'
                        · refine ⟨q.toNatClampNeg, ?_, hn⟩
                          rw [← List.append_assoc]
                          exact knum_ap hkn
                        · rw [← List.append_assoc]
                          exact kov_ap k4 q' hq'
                      · rw [← List.append_assoc]; exact kfs_ap hD
                    · cases h
                  · cases h
            · cases h
          · cases h
      · cases h
/-- a product with a number, and what it is -/
def nmulc (E : kE) (x y : kV) : Option (kE × kV × List kF) := match kiv E y with
  | some b => bif decide (b.1 = b.2) then (bif kz E && (Nat.beq x.2.1 0 && (decide (kmin ≤ x.2.2 * b.1) && decide (x.2.2 * b.1 ≤ kmax))) then fz (x.2.2 * b.1) (fun c => some (E, (0, 0, c), [])) else none) else bif (kz E && (Nat.beq x.2.1 0 && decide (0 ≤ x.2.2))) && (decide (b.1 < b.2) && (decide (kmin ≤ x.2.2 * b.1) && decide (x.2.2 * b.2 ≤ kmax))) then some (E ++ [(x.2.2 * b.1, x.2.2 * b.2)], (0, E.length, 0), [([(1, E.length), (-x.2.2, y.2.1)], x.2.2 * y.2.2), ([(-1, E.length), (x.2.2, y.2.1)], -(x.2.2 * y.2.2))]) else none
  | none => none
theorem nmulc_ok : nbok (fun x y => x * y) nmulc := by
  intro E x y E' v D' h
  unfold nmulc at h
  split at h
  · rename_i b hb
    cases hd : decide (b.1 = b.2) with
    | true =>
      rw [hd] at h
      simp only [cond_true] at h
      have hd := of_decide_eq_true hd
      cases hc : (kz E && (Nat.beq x.2.1 0 && (decide (kmin ≤ x.2.2 * b.1) && decide (x.2.2 * b.1 ≤ kmax)))) with
      | false => rw [hc] at h; cases h
      | true =>
        rw [hc, fz_eq] at h
        cases h
        simp only [Bool.and_eq_true, decide_eq_true_eq] at hc
        obtain ⟨c1, c2, c3, c4⟩ := hc
        refine ⟨rfl, fun ρ p q h1 hp hq => ⟨[], by simpa using h1, ?_, fun f hf => by cases hf⟩⟩
        have bq := kiv_in h1 hq hb
        have ep : p.toInt = x.2.2 := by
          obtain ⟨tx, ix, cx⟩ := x
          have e0 := Nat.eq_of_beq_eq_true c2
          dsimp only at e0
          subst e0
          exact ti_cst h1 c1 hp
        have eq : q.toInt = b.1 := by omega
        rw [ti_mul (by rw [ep, eq]; exact c3) (by rw [ep, eq]; exact c4), ep, eq, List.append_nil]
        exact kz_ok h1 c1 _ 0
    | false =>
    rw [hd] at h
    simp only [cond_false] at h
    cases hc : ((kz E && (Nat.beq x.2.1 0 && decide (0 ≤ x.2.2))) && (decide (b.1 < b.2) && (decide (kmin ≤ x.2.2 * b.1) && decide (x.2.2 * b.2 ≤ kmax)))) with
    | false => rw [hc] at h; cases h
    | true =>
      rw [hc] at h
      cases h
      simp only [Bool.and_eq_true, decide_eq_true_eq] at hc
      obtain ⟨⟨c1, c2, c3⟩, c4, c5, c6⟩ := hc
      refine ⟨rfl, fun ρ p q h1 hp hq => ?_⟩
      have bq := kiv_in h1 hq hb
      have ep : p.toInt = x.2.2 := by
        obtain ⟨tx, ix, cx⟩ := x
        have e0 := Nat.eq_of_beq_eq_true c2
        dsimp only at e0
        subst e0
        exact ti_cst h1 c1 hp
      have m1 : x.2.2 * b.1 ≤ x.2.2 * q.toInt := Int.mul_le_mul_of_nonneg_left bq.1 c3
      have m2 : x.2.2 * q.toInt ≤ x.2.2 * b.2 := Int.mul_le_mul_of_nonneg_left bq.2 c3
      have er : (p * q).toInt = x.2.2 * q.toInt := by
        rw [ti_mul (by rw [ep]; unfold kmin at c5; omega) (by rw [ep]; unfold kmax at c6; omega), ep]
      obtain ⟨z, k1, k2⟩ := hq
      have n1 : xnth (ρ ++ [(p * q).toInt]) E.length = some (p * q).toInt := kin_new h1
      have ez : x.2.2 * q.toInt = x.2.2 * z + x.2.2 * y.2.2 := by rw [k2, Int.mul_add]
      refine nfr_ok h1 (by rw [er]; exact m1) (by rw [er]; exact m2) ?_
      refine kfs_cons ⟨_, kls_two n1 (xnth_ap k1), ?_⟩ (kfs_cons ⟨_, kls_two n1 (xnth_ap k1), ?_⟩ (fun f hf => by cases hf))
      · dsimp only
        rw [er, Int.neg_mul]
        omega
      · dsimp only
        rw [er]
        omega
  · cases h
def nisM (e : xE) : Bool := match e.1 with
  | .imul => true
  | _ => false
def nmulX (P : Nat → Nat → Bool) : Nat → Nat → nS → nX := fun y pc x => bif P y pc then (match xmeth y with
  | some r => (match xat r.1 pc with
    | some e => bif nisM e then nb2 nmulc pc x else none
    | none => none)
  | none => none) else none
theorem nmulX_ok {T : kT} {C : kQ} {sc : List Int32} {P : Nat → Nat → Bool} : nXs T C sc (nmulX P) := by
  intro y r pc x outs ρ0 Q hy h hg
  unfold nmulX at h
  cases hP : P y pc with
  | false => rw [hP] at h; cases h
  | true =>
    rw [hP, hy] at h
    simp only [cond_true] at h
    cases he : xat r.1 pc with
    | none => rw [he] at h; cases h
    | some e =>
      rw [he] at h
      dsimp only at h
      cases hm : nisM e with
      | false => rw [hm] at h; cases h
      | true =>
        rw [hm] at h
        obtain ⟨i, a, b, z⟩ := e
        cases i <;> first | (cases hm; done) | skip
        exact nb2_ok nmulc_ok he rfl (fun _ _ _ => rfl) h hg
/-- a letter of a string, the place known -/
def nisC (e : xE) : Bool := match e.1 with
  | .invokevirtual _ => Nat.beq e.2.1 5006
  | _ => false
def nchX (P : Nat → Nat → Bool) : Nat → Nat → nS → nX := fun y pc x => bif P y pc then (match xmeth y with
  | some r => (match xat r.1 pc with
    | some e => (match x.1.2.2.1 with
      | j :: v :: S => bif (nisC e && kz x.1.1) && (((Nat.beq v.1 3 && Nat.blt 0 v.2.1) && Nat.blt v.2.1 3) && (Nat.beq j.1 0 && Nat.ble (kcs S) 8)) then (match kiv x.1.1 j with
        | some b => bif (decide (b.1 = b.2) && decide (0 ≤ b.1)) && decide (b.2 < (xsN.getD (v.2.1 - 1) 0 : Int)) then some [(pc + 3, ((x.1.1, x.1.2.1, (0, 0, ((xsB.getD (v.2.1 - 1) []).getD b.1.toNat 0).toInt) :: S, x.1.2.2.2), x.2))] else none
        | none => none) else none
      | _ => none)
    | none => none)
  | none => none) else none
theorem nchX_ok {T : kT} {C : kQ} {sc : List Int32} {P : Nat → Nat → Bool} : nXs T C sc (nchX P) := by
  intro y r pc x outs ρ0 Q hy h hg
  obtain ⟨⟨E, L, S, O⟩, D⟩ := x
  unfold nchX at h
  cases hP : P y pc with
  | false => rw [hP] at h; cases h
  | true =>
    rw [hP, hy] at h
    simp only [cond_true] at h
    cases he : xat r.1 pc with
    | none => rw [he] at h; cases h
    | some e =>
      rw [he] at h
      dsimp only at h
      split at h
      · rename_i j v S'
        cases hb : ((nisC e && kz E) && (((Nat.beq v.1 3 && Nat.blt 0 v.2.1) && Nat.blt v.2.1 3) && (Nat.beq j.1 0 && Nat.ble (kcs S') 8))) with
        | false => rw [hb] at h; cases h
        | true =>
          rw [hb] at h
          simp only [cond_true] at h
          simp only [Bool.and_eq_true] at hb
          obtain ⟨⟨a1, a2⟩, ⟨⟨b1, b2⟩, b3⟩, b4, b5⟩ := hb
          obtain ⟨ii, ea, eb, ez⟩ := e
          cases ii <;> first | (cases a1; done) | skip
          rename_i ix
          have h6 : Nat.beq ea 5006 = true := a1
          have h5 : Nat.beq ea 5005 = false := by rw [Nat.eq_of_beq_eq_true h6]; decide
          split at h
          · rename_i b hbv
            cases hc : ((decide (b.1 = b.2) && decide (0 ≤ b.1)) && decide (b.2 < (xsN.getD (v.2.1 - 1) 0 : Int))) with
            | false => rw [hc] at h; cases h
            | true =>
              rw [hc] at h
              cases h
              simp only [Bool.and_eq_true, decide_eq_true_eq] at hc
              intro σ L' st B I J ⟨h1, h2, h3, h4⟩ hD hB hI
              obtain ⟨wj, st1, rfl, g0, w, st', rfl, g1, h3⟩ := h3
              obtain ⟨t, jj, c⟩ := v
              have e0 := Nat.eq_of_beq_eq_true b1
              have e1 := Nat.blt_eq.mp b2
              have e2 := Nat.blt_eq.mp b3
              dsimp only at e0 e1 e2 hc
              subst e0
              obtain ⟨k, rfl⟩ : ∃ k, jj = k + 1 := ⟨jj - 1, by omega⟩
              have e3 : w = .retAddr (k + 1) := g1
              subst e3
              have hk2 : k < 2 := by omega
              obtain ⟨tj, ij, cj⟩ := j
              have e4 := Nat.eq_of_beq_eq_true b4
              dsimp only at e4
              subst e4
              obtain ⟨x, rfl, hx⟩ := g0
              have hxb := kiv_in h1 hx hbv
              rw [show k + 1 - 1 = k by omega] at hc
              have ex : x.toNatClampNeg = x.toInt.toNat := rfl
              have hlt : x.toNatClampNeg < xsN.getD k 0 := by omega
              have eb : b.1.toNat = x.toNatClampNeg := by omega
              refine sw_s he (by rw [Nat.eq_of_beq_eq_true h6]; rfl) rfl (?_ : _ = some (pc + 3, L', .int ((xsB.getD k []).getD x.toNatClampNeg 0) :: st', tMem B I J)) (hg _ List.mem_cons_self σ L' _ B I J ⟨h1, h2, ⟨_, _, rfl, ⟨_, rfl, ?_⟩, h3⟩, h4⟩ hD hB hI)
              · show (bif Nat.beq ea 5005 then _ else bif Nat.beq ea 5006 then xschar pc L' (.int x :: .retAddr (k + 1) :: st') (tMem B I J) else none) = _
                rw [h5, h6]
                show (bif xcat8 st' && Nat.blt k 2 then _ else none) = _
                rw [kcat8 h3 b5, Nat.blt_eq.mpr hk2]
                simp only [Bool.and_true, cond_true]
                rw [xix_yes (ti_pos (by omega)) hlt]
              · dsimp only
                rw [eb, show k + 1 - 1 = k by omega]
                exact kz_ok h1 a2 _ 0
          · cases h
      · cases h
/-- some steps in a row, no head among them -/
def nrun (T : kT) (r : xR) : Nat → Nat → nS → nX
  | 0, pc, x => some [(pc, x)]
  | n + 1, pc, x => match xat r.1 pc with
    | some e => bif Nat.beq (xkind e) 0 then (match nstep T e pc x with
      | some outs => nmany (fun q => nrun T r n q.1 q.2) outs
      | none => none) else none
    | none => none
theorem nrun_ok {T : kT} {C : kQ} {sc : List Int32} {r : xR} {ρ0 : List Int} {Q : Option Value → xM → Prop} : ∀ {n pc : Nat} {x : nS} {outs : List (Nat × nS)}, nrun T r n pc x = some outs → (∀ q ∈ outs, nG T C sc r ρ0 q.1 q.2 Q) → nG T C sc r ρ0 pc x Q
  | 0, pc, x, outs, h, hg => by
    cases h
    exact hg _ List.mem_cons_self
  | n + 1, pc, x, outs, h, hg => by
    simp only [nrun] at h
    split at h
    · rename_i e he
      cases hk : Nat.beq (xkind e) 0 with
      | false => rw [hk] at h; cases h
      | true =>
        rw [hk] at h
        simp only [cond_true] at h
        split at h
        · rename_i os hos
          refine nstep_ok he (Nat.eq_of_beq_eq_true hk) os hos (fun q hq => ?_)
          obtain ⟨a, h1, h2⟩ := nmany_in h q hq
          exact nrun_ok h1 (fun p hp => hg p (h2 p hp))
        · cases h
    · cases h
def nthX (T : kT) (P : Nat → Nat → Option Nat) : Nat → Nat → nS → nX := fun y pc x => match P y pc with
  | none => none
  | some n => (match kfind x.1.2.1 2 with
    | some v => (match kiv x.1.1 v with
      | some b => bif decide (b = (0, 0)) then (match xmeth y with
        | some r => nrun T r n pc x
        | none => none) else none
      | none => none)
    | none => none)
theorem nthX_ok {T : kT} {C : kQ} {sc : List Int32} {P : Nat → Nat → Option Nat} : nXs T C sc (nthX T P) := by
  intro y r pc x outs ρ0 Q hy h hg
  unfold nthX at h
  split at h
  · cases h
  · rename_i n hn
    split at h
    · rename_i v hv
      split at h
      · rename_i b hb
        cases hd : decide (b = (0, 0)) with
        | false => rw [hd] at h; cases h
        | true =>
          rw [hd, hy] at h
          exact nrun_ok h hg
      · cases h
    · cases h
