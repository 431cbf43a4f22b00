/-! ONE STEP, WITH FACTS -/
def nel (a b : nX) : nX := match a with
  | some o => some o
  | none => b
def nSd (T : kT) (C : kQ) (sc : List Int32) (r : xR) (ρ0 : List Int) (pc : Nat) (x : nS) (Q : Option Value → xM → Prop) (o : nX) : Prop := ∀ outs, o = some outs → (∀ q ∈ outs, nG T C sc r ρ0 q.1 q.2 Q) → nG T C sc r ρ0 pc x Q
def nstep (T : kT) (e : xE) (pc : Nat) (x : nS) : nX := match e.1 with
  | .iadd => nel (nb2 (nadd 1) pc x) (nlift x.2 (kstepA T e pc x.1))
  | .isub => nel (nb2 (nadd (-1)) pc x) (nlift x.2 (kstepA T e pc x.1))
  | .imul => nel (nb2 (ncst (fun x y => x * y)) pc x) (nel (nlift x.2 (kstep3 T e pc x.1)) (nel (nb2 nmul pc x) (nlift x.2 (kstepA T e pc x.1))))
  | .iand => nel (nb2 nand pc x) (nlift x.2 (kstepA T e pc x.1))
  | .ior => nel (nb2 nor pc x) (nlift x.2 (kstepA T e pc x.1))
  | .ishl => nel (nb2 (ncst (fun x y => x <<< (y &&& 31))) pc x) (nlift x.2 (kstepA T e pc x.1))
  | .ishr => nel (nb2 nshr pc x) (nlift x.2 (kstepA T e pc x.1))
  | .ladd => nel (naddL 1 pc x) (nlift x.2 (kstepA T e pc x.1))
  | .lsub => nel (naddL (-1) pc x) (nlift x.2 (kstepA T e pc x.1))
  | .lmul => nel (nlml pc x) (nlift x.2 (kstepA T e pc x.1))
  | .irem => nel (nqr true pc x) (nlift x.2 (kstepA T e pc x.1))
  | .idiv => nel (nqr false pc x) (nlift x.2 (kstepA T e pc x.1))
  | .ldiv => nb2L nldv pc x
  | .lrem => nb2L nlrm pc x
  | .aaload => bif kz4 e then naald T pc x else none
  | .getfield _ => nel (ngetw T e.2.1 e.2.2.1 pc x) (nlift x.2 (kstepA T e pc x.1))
  | .putfield _ => nel (nputw T e.2.1 e.2.2.1 pc x) (nlift x.2 (kstepA T e pc x.1))
  | .invokestatic _ => bif Nat.beq e.2.1 5001 then ncopy T pc x else bif Nat.beq e.2.1 5004 then nabs pc x else nlift x.2 (kstepA T e pc x.1)
  | .if_icmp c _ => bif Nat.beq e.2.2.1 0 && decide (e.2.2.2 = 0) then nbr2 c pc e.2.1 x else none
  | _ => nlift x.2 (kstepA T e pc x.1)
section NS
variable {T : kT} {C : kQ} {sc : List Int32} {r : xR} {ρ0 : List Int} {pc : Nat} {Q : Option Value → xM → Prop} {x : nS} {e : xE}
theorem nel_ok {a b : nX} (ha : nSd T C sc r ρ0 pc x Q a) (hb : nSd T C sc r ρ0 pc x Q b) : nSd T C sc r ρ0 pc x Q (nel a b) := by
  intro outs h
  unfold nel at h
  split at h
  · rename_i o
    cases h
    exact ha _ rfl
  · exact hb _ h
theorem nlift_sd (he : xat r.1 pc = some e) (hk : xkind e = 0) : nSd T C sc r ρ0 pc x Q (nlift x.2 (kstepA T e pc x.1)) := fun outs h hg => nlift_ok he hk h hg
theorem nlift3_sd (he : xat r.1 pc = some e) (hk : xkind e = 0) : nSd T C sc r ρ0 pc x Q (nlift x.2 (kstep3 T e pc x.1)) := fun outs h hg => by
  obtain ⟨s, D⟩ := x
  unfold nlift at h
  split at h
  · rename_i l hl
    cases h
    intro σ L st B I J hs hD hB hI
    refine kstep3_ok (ρ0 := ρ0 ++ σ) he hk hl (fun q hq => ?_) [] L st B I J (by simpa using hs) hB hI
    intro σ2 L2 st2 B2 I2 J2 h1 h2 h3
    rw [List.append_assoc] at h1
    refine hg (q.1, (q.2, D)) (List.mem_map.mpr ⟨q, hq, rfl⟩) (σ ++ σ2) L2 st2 B2 I2 J2 h1 ?_ h2 h3
    rw [← List.append_assoc]
    exact kfs_ap hD
  · cases h
theorem nstep_ok (he : xat r.1 pc = some e) (hk : xkind e = 0) : nSd T C sc r ρ0 pc x Q (nstep T e pc x) := by
  obtain ⟨ins, ea, eb, ez⟩ := e
  cases ins
  case iadd => exact nel_ok (fun outs h hg => nb2_ok nadd_1 he hk (fun _ _ _ => rfl) h hg) (nlift_sd he hk)
  case isub => exact nel_ok (fun outs h hg => nb2_ok nadd_2 he hk (fun _ _ _ => rfl) h hg) (nlift_sd he hk)
  case imul => exact nel_ok (fun outs h hg => nb2_ok ncst_ok he hk (fun _ _ _ => rfl) h hg) (nel_ok (nlift3_sd he hk) (nel_ok (fun outs h hg => nb2_ok nmul_ok he hk (fun _ _ _ => rfl) h hg) (nlift_sd he hk)))
  case iand => exact nel_ok (fun outs h hg => nb2_ok nand_ok he hk (fun _ _ _ => rfl) h hg) (nlift_sd he hk)
  case ior => exact nel_ok (fun outs h hg => nb2_ok nor_ok he hk (fun _ _ _ => rfl) h hg) (nlift_sd he hk)
  case ishl => exact nel_ok (fun outs h hg => nb2_ok ncst_ok he hk (fun _ _ _ => rfl) h hg) (nlift_sd he hk)
  case ishr => exact nel_ok (fun outs h hg => nb2_ok nshr_ok he hk (fun _ _ _ => rfl) h hg) (nlift_sd he hk)
  case ladd =>
    refine nel_ok (fun outs h hg => naddL_ok (Or.inl rfl) (fun p q h1 h2 => ?_) he hk (fun _ _ _ _ _ => rfl) h hg) (nlift_sd he hk)
    rw [Int.one_mul] at h1 h2 ⊢
    exact tl_add h1 h2
  case lsub =>
    refine nel_ok (fun outs h hg => naddL_ok (Or.inr rfl) (fun p q h1 h2 => ?_) he hk (fun _ _ _ _ _ => rfl) h hg) (nlift_sd he hk)
    have e : (-1 : Int) * q.toInt = - q.toInt := by omega
    rw [e] at h1 h2 ⊢
    rw [tl_sub (by omega) (by omega)]
    omega
  case lmul => exact nel_ok (fun outs h hg => nlml_ok he hk (fun _ _ _ _ _ => rfl) h hg) (nlift_sd he hk)
  case irem =>
    refine nel_ok (fun outs h hg => nqr_ok (rm := true) he hk (fun L p q st M hq => ?_) h hg) (nlift_sd he hk)
    show (bif decide (q = 0) then none else some (pc + 1, L, .int (p - p / q * q) :: st, M)) = _
    rw [ti_ne hq]
    rfl
  case idiv =>
    refine nel_ok (fun outs h hg => nqr_ok (rm := false) he hk (fun L p q st M hq => ?_) h hg) (nlift_sd he hk)
    show (bif decide (q = 0) then none else some (pc + 1, L, .int (p / q) :: st, M)) = _
    rw [ti_ne hq]
    rfl
  case ldiv =>
    refine fun outs h hg => nb2L_ok (g := fun p q => p / q) nldv_ok he hk (fun L p q st M hq => ?_) h hg
    show (bif decide (q = 0) then none else some (pc + 1, L, .long (p / q) :: st, M)) = _
    rw [decide_eq_false hq]
    rfl
  case lrem =>
    refine fun outs h hg => nb2L_ok nlrm_ok he hk (fun L p q st M hq => ?_) h hg
    show (bif decide (q = 0) then none else some (pc + 1, L, .long (p - p / q * q) :: st, M)) = _
    rw [decide_eq_false hq]
    rfl
  case aaload =>
    intro outs h hg
    simp only [nstep] at h
    cases hz : kz4 (.aaload, ea, eb, ez) with
    | false => rw [hz] at h; cases h
    | true =>
      rw [hz] at h
      obtain ⟨rfl, rfl, rfl⟩ := kz4_ok hz
      exact naald_ok he h hg
  case getfield i => exact nel_ok (fun outs h hg => ngetw_ok he h hg) (nlift_sd he hk)
  case putfield i => exact nel_ok (fun outs h hg => nputw_ok he h hg) (nlift_sd he hk)
  case invokestatic i =>
    intro outs h hg
    simp only [nstep] at h
    cases h1 : Nat.beq ea 5001 with
    | true =>
      rw [h1] at h
      have e1 := Nat.eq_of_beq_eq_true h1
      subst e1
      exact ncopy_ok he h hg
    | false =>
      rw [h1] at h
      simp only [cond_false] at h
      cases h2 : Nat.beq ea 5004 with
      | true =>
        rw [h2] at h
        have e1 := Nat.eq_of_beq_eq_true h2
        subst e1
        exact nabs_ok he h hg
      | false =>
        rw [h2] at h
        exact nlift_sd he hk outs h hg
  case if_icmp c off =>
    intro outs h hg
    simp only [nstep] at h
    cases hb : (Nat.beq eb 0 && decide (ez = 0)) with
    | false => rw [hb] at h; cases h
    | true =>
      rw [hb] at h
      rw [Bool.and_eq_true, decide_eq_true_eq] at hb
      have e1 := Nat.eq_of_beq_eq_true hb.1
      have e2 := hb.2
      subst e1 e2
      exact nbr2_ok he h hg
  all_goals exact nlift_sd he hk
end NS
