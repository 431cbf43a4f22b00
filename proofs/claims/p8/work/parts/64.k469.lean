/-! MORE STEPS OF THE CHECK, 4: rows of longs and bytes, long fields, switches -/
section TX2
variable {sc : List Int32} {r : xR} {pc : Nat} {L : xL} {st : List Value} {Q : Option Value → xM → Prop} {B : xM} {I : tI} {J : tJ}
theorem tx_lald {o : Nat} {j : Int32} (he : xat r.1 pc = some (.laload, 0, 0, 0)) (h : tSlot B o 22 j.toNatClampNeg 1 = true) (h0 : 0 ≤ j.toInt) (kk : sw sc r (pc + 1) L (.long (J o j.toNatClampNeg) :: st) (tMem B I J) Q) : sw sc r pc L (.int j :: .ref o :: st) (tMem B I J) Q := by
  obtain ⟨sl, g1, g2, g3, -⟩ := tput_l (I := I) (J := J) (v := 0) h
  refine sw_0 he rfl (?_ : xald 22 pc L (.int j :: .ref o :: st) (tMem B I J) = _) kk
  unfold xald
  dsimp only
  rw [g1]
  dsimp only
  rw [xix_yes (ti_pos h0) g2]
  dsimp only
  rw [g3]
theorem tx_last {o : Nat} {j : Int32} {v : Int64} (he : xat r.1 pc = some (.lastore, 0, 0, 0)) (h : tSlot B o 22 j.toNatClampNeg 1 = true) (h0 : 0 ≤ j.toInt) (kk : sw sc r (pc + 1) L st (tMem B I (tup J o j.toNatClampNeg v)) Q) : sw sc r pc L (.long v :: .int j :: .ref o :: st) (tMem B I J) Q := by
  obtain ⟨sl, g1, g2, g3, g4⟩ := tput_l (I := I) (J := J) (v := v) h
  refine sw_0 he rfl (?_ : xast 22 xgL pc L (.long v :: .int j :: .ref o :: st) (tMem B I J) = _) kk
  unfold xast xgL
  dsimp only
  rw [g1]
  dsimp only
  rw [xix_yes (ti_pos h0) g2]
  dsimp only
  rw [g4]
theorem tx_bald {o : Nat} {j : Int32} (he : xat r.1 pc = some (.baload, 0, 0, 0)) (h : tSlot B o 21 j.toNatClampNeg 0 = true) (h0 : 0 ≤ j.toInt) (kk : sw sc r (pc + 1) L (.int (I o j.toNatClampNeg) :: st) (tMem B I J) Q) : sw sc r pc L (.int j :: .ref o :: st) (tMem B I J) Q := by
  obtain ⟨sl, g1, g2, g3, -⟩ := tput_i (I := I) (J := J) (v := 0) h
  refine sw_0 he rfl (?_ : xald 21 pc L (.int j :: .ref o :: st) (tMem B I J) = _) kk
  unfold xald
  dsimp only
  rw [g1]
  dsimp only
  rw [xix_yes (ti_pos h0) g2]
  dsimp only
  rw [g3]
theorem tx_bast {o : Nat} {j v : Int32} (he : xat r.1 pc = some (.bastore, 0, 0, 0)) (h : tSlot B o 21 j.toNatClampNeg 0 = true) (h0 : 0 ≤ j.toInt) (kk : sw sc r (pc + 1) L st (tMem B (tup I o j.toNatClampNeg v.toInt8.toInt32) J) Q) : sw sc r pc L (.int v :: .int j :: .ref o :: st) (tMem B I J) Q := by
  obtain ⟨sl, g1, g2, g3, g4⟩ := tput_i (I := I) (J := J) (v := v.toInt8.toInt32) h
  refine sw_0 he rfl (?_ : xast 21 xgB pc L (.int v :: .int j :: .ref o :: st) (tMem B I J) = _) kk
  unfold xast xgB
  dsimp only
  rw [g1]
  dsimp only
  rw [xix_yes (ti_pos h0) g2]
  dsimp only
  rw [g4]
end TX2
theorem kB_slotL {T : kT} {B : xM} {o c m k : Nat} (h : kB T B) (ho : T.k o = some (c, m)) (hk : k < m) (ht : (T.b o k).1 = 1) : tSlot B o c k 1 = true := by
  obtain ⟨sl, h1, h2, h3⟩ := h o _ ho
  obtain ⟨v, g1, -, g2, -⟩ := h3 k hk
  unfold tSlot
  dsimp only at h1
  rw [h1]
  dsimp only
  rw [g1]
  exact g2 ht
/-- all slots from a on, n + 1 of them, are longs -/
def kjl (T : kT) (o : Nat) : Nat → Nat → Bool
  | a, 0 => Nat.beq (T.b o a).1 1
  | a, n + 1 => Nat.beq (T.b o a).1 1 && kjl T o (a + 1) n
theorem kjl_ok {T : kT} {o : Nat} : ∀ (n a : Nat), kjl T o a n = true → ∀ k, a ≤ k → k ≤ a + n → (T.b o k).1 = 1
  | 0, a, h, k, h1, h2 => by
    have e : k = a := by omega
    subst e
    exact Nat.eq_of_beq_eq_true h
  | n + 1, a, h, k, h1, h2 => by
    simp only [kjl, Bool.and_eq_true] at h
    by_cases e : k = a
    · subst e; exact Nat.eq_of_beq_eq_true h.1
    · exact kjl_ok n (a + 1) h.2 k (by omega) (by omega)
def kjm (T : kT) (o : Nat) : Nat → Nat → Bool
  | a, 0 => T.m o a
  | a, n + 1 => T.m o a && kjm T o (a + 1) n
theorem kjm_ok {T : kT} {o : Nat} : ∀ (n a : Nat), kjm T o a n = true → ∀ k, a ≤ k → k ≤ a + n → T.m o k = true
  | 0, a, h, k, h1, h2 => by
    have e : k = a := by omega
    subst e
    exact h
  | n + 1, a, h, k, h1, h2 => by
    simp only [kjm, Bool.and_eq_true] at h
    by_cases e : k = a
    · subst e; exact h.1
    · exact kjm_ok n (a + 1) h.2 k (by omega) (by omega)
/-- an index that is inside: object, first place, how many more -/
def kix (T : kT) (c : Nat) (E : kE) (j v : kV) : Option (Nat × Nat × Nat × Int × Int) := bif Nat.beq j.1 0 && Nat.beq v.1 2 then (match T.k v.2.1 with
  | some cm => (match kiv E j with
    | some b => bif (Nat.beq cm.1 c && decide (0 ≤ b.1)) && decide (b.2 < (cm.2 : Int)) then some (v.2.1, b.1.toNat, (b.2 - b.1).toNat, b.1, b.2) else none
    | none => none)
  | none => none) else none
theorem kix_ok {T : kT} {c : Nat} {ρ : List Int} {E : kE} {j v : kV} {wj wv : Value} {q : Nat × Nat × Nat × Int × Int} (h : kin ρ E) (hj : kv ρ j wj) (hv : kv ρ v wv) (hq : kix T c E j v = some q) : ∃ (x : Int32) (m : Nat), wj = .int x ∧ wv = .ref q.1 ∧ T.k q.1 = some (c, m) ∧ x.toNatClampNeg < m ∧ 0 ≤ x.toInt ∧ q.2.1 ≤ x.toNatClampNeg ∧ x.toNatClampNeg ≤ q.2.1 + q.2.2.1 ∧ (x.toNatClampNeg : Int) = x.toInt ∧ knum ρ j x.toInt ∧ q.2.2.2.1 ≤ x.toInt ∧ x.toInt ≤ q.2.2.2.2 := by
  unfold kix at hq
  cases hb : (Nat.beq j.1 0 && Nat.beq v.1 2) with
  | false => rw [hb] at hq; cases hq
  | true =>
    rw [hb] at hq
    simp only [cond_true] at hq
    rw [Bool.and_eq_true] at hb
    split at hq
    · rename_i cm hcm
      split at hq
      · rename_i b hbv
        cases hc : ((Nat.beq cm.1 c && decide (0 ≤ b.1)) && decide (b.2 < (cm.2 : Int))) with
        | false => rw [hc] at hq; cases hq
        | true =>
          rw [hc] at hq
          cases hq
          simp only [Bool.and_eq_true, decide_eq_true_eq] at hc
          obtain ⟨tj, ij, cj⟩ := j
          obtain ⟨tv, o, d⟩ := v
          have e1 := Nat.eq_of_beq_eq_true hb.1
          have e2 := Nat.eq_of_beq_eq_true hb.2
          dsimp only at e1 e2
          subst e1 e2
          obtain ⟨x, rfl, hx⟩ := hj
          have hv2 : wv = .ref o := hv
          subst hv2
          obtain ⟨k, m⟩ := cm
          have e3 := Nat.eq_of_beq_eq_true hc.1.1
          dsimp only at e3
          subst e3
          have hxb := kiv_in h hx hbv
          have e : x.toNatClampNeg = x.toInt.toNat := rfl
          have hlt := hc.2
          dsimp only at hlt hcm
          have h0 := hc.1.2
          exact ⟨x, m, rfl, rfl, hcm, by omega, by omega, by dsimp only; omega, by dsimp only; omega, by omega, hx, hxb.1, hxb.2⟩
      · cases hq
    · cases hq
def kLald (T : kT) (pc : Nat) (s : kS) : kX := match s.2.2.1 with
  | j :: v :: S => (match kix T 22 s.1 j v with
    | some q => bif kjl T q.1 q.2.1 q.2.2.1 then some [(pc + 1, (s.1 ++ [(klmin, klmax)], s.2.1, (1, s.1.length, 0) :: S, s.2.2.2))] else none
    | none => none)
  | _ => none
def kLast (T : kT) (pc : Nat) (s : kS) : kX := match s.2.2.1 with
  | u :: j :: v :: S => (match kix T 22 s.1 j v with
    | some q => bif Nat.beq u.1 1 && (kjl T q.1 q.2.1 q.2.2.1 && kjm T q.1 q.2.1 q.2.2.1) then some [(pc + 1, (s.1, s.2.1, S, s.2.2.2))] else none
    | none => none)
  | _ => none
def kBald (T : kT) (pc : Nat) (s : kS) : kX := match s.2.2.1 with
  | j :: v :: S => (match kix T 21 s.1 j v with
    | some q => (match kjn T q.1 q.2.1 q.2.2.1 with
      | some w => some [(pc + 1, (s.1 ++ [w], s.2.1, (0, s.1.length, 0) :: S, s.2.2.2))]
      | none => none)
    | none => none)
  | _ => none
def kBast (T : kT) (pc : Nat) (s : kS) : kX := match s.2.2.1 with
  | u :: j :: v :: S => (match kix T 21 s.1 j v with
    | some q => bif Nat.beq u.1 0 && kmt T q.1 (-128) 127 q.2.1 q.2.2.1 then some [(pc + 1, (s.1, s.2.1, S, kkill s.1 q.1 j.2.1 j.2.2 q.2.2.2.1 q.2.2.2.2 s.2.2.2))] else none
    | none => none)
  | _ => none
def kz4 (e : xE) : Bool := Nat.beq e.2.1 0 && (Nat.beq e.2.2.1 0 && decide (e.2.2.2 = 0))
def kstep4 (T : kT) (e : xE) (pc : Nat) (s : kS) : kX := match e.1 with
  | .laload => bif kz4 e then kLald T pc s else none
  | .lastore => bif kz4 e then kLast T pc s else none
  | .baload => bif kz4 e then kBald T pc s else none
  | .bastore => bif kz4 e then kBast T pc s else none
  | _ => none
section KS6
variable {T : kT} {C : kQ} {sc : List Int32} {r : xR} {ρ0 : List Int} {pc : Nat} {s : kS} {Q : Option Value → xM → Prop} {outs : List (Nat × kS)}
theorem kz4_ok {ins : Instr} {ea eb : Nat} {ez : Int} (h : kz4 (ins, ea, eb, ez) = true) : ea = 0 ∧ eb = 0 ∧ ez = 0 := by
  unfold kz4 at h
  simp only [Bool.and_eq_true, decide_eq_true_eq] at h
  exact ⟨Nat.eq_of_beq_eq_true h.1, Nat.eq_of_beq_eq_true h.2.1, h.2.2⟩
theorem ti_b8 (v : Int32) : -128 ≤ v.toInt8.toInt32.toInt ∧ v.toInt8.toInt32.toInt ≤ 127 := by
  rw [Int8.toInt_toInt32]
  exact ⟨Int8.le_toInt _, Int8.toInt_le _⟩
theorem kstep4_ok {e : xE} (he : xat r.1 pc = some e) (hk : xkind e = 0) (h : kstep4 T e pc s = some outs) (hg : ∀ q ∈ outs, kG T C sc r ρ0 q.1 q.2 Q) : kG T C sc r ρ0 pc s Q := by
  obtain ⟨ins, ea, eb, ez⟩ := e
  obtain ⟨E, L, S, O⟩ := s
  cases ins
  case laload =>
    simp only [kstep4] at h
    cases hz : kz4 (.laload, ea, eb, ez) with
    | false => rw [hz] at h; cases h
    | true =>
      rw [hz] at h
      obtain ⟨rfl, rfl, rfl⟩ := kz4_ok hz
      simp only [cond_true, kLald] at h
      split at h
      · rename_i j v S'
        split at h
        · rename_i q hq
          cases hb : kjl T q.1 q.2.1 q.2.2.1 with
          | false => rw [hb] at h; cases h
          | true =>
            rw [hb] at h
            cases h
            intro σ L' st B I J ⟨h1, h2, h3, h4⟩ hB hI
            obtain ⟨wj, st1, rfl, g1, wv, st2, rfl, g2, h3⟩ := h3
            obtain ⟨x, m, rfl, rfl, k1, k2, k3, k4, k5, k6, k7, k8, k9⟩ := kix_ok h1 g1 g2 hq
            have ht := kjl_ok _ _ hb x.toNatClampNeg k4 k5
            have b := tl_bd (J q.1 x.toNatClampNeg)
            refine tx_lald he (kB_slotL hB k1 k2 ht) k3 (hg _ List.mem_cons_self (σ ++ [(J q.1 x.toNatClampNeg).toInt]) L' _ B I J ⟨?_, ?_, ?_, ?_⟩ hB hI)
            · rw [← List.append_assoc]; exact kin_app h1 b.1 b.2
            · rw [← List.append_assoc]; exact kvl_ap h2
            · rw [← List.append_assoc]; exact ⟨_, _, rfl, ⟨_, rfl, _, kin_new h1, by simp⟩, kvs_ap h3⟩
            · rw [← List.append_assoc]; exact kov_ap h4
        · cases h
      · cases h
  case lastore =>
    simp only [kstep4] at h
    cases hz : kz4 (.lastore, ea, eb, ez) with
    | false => rw [hz] at h; cases h
    | true =>
      rw [hz] at h
      obtain ⟨rfl, rfl, rfl⟩ := kz4_ok hz
      simp only [cond_true, kLast] at h
      split at h
      · rename_i u j v S'
        split at h
        · rename_i q hq
          cases hb : (Nat.beq u.1 1 && (kjl T q.1 q.2.1 q.2.2.1 && kjm T q.1 q.2.1 q.2.2.1)) with
          | false => rw [hb] at h; cases h
          | true =>
            rw [hb] at h
            cases h
            rw [Bool.and_eq_true] at hb
            intro σ L' st B I J ⟨h1, h2, h3, h4⟩ hB hI
            obtain ⟨wu, st0, rfl, g0, wj, st1, rfl, g1, wv, st2, rfl, g2, h3⟩ := h3
            obtain ⟨x, m, rfl, rfl, k1, k2, k3, k4, k5, k6, k7, k8, k9⟩ := kix_ok h1 g1 g2 hq
            obtain ⟨tu, iu, cu⟩ := u
            have e1 := Nat.eq_of_beq_eq_true hb.1
            dsimp only at e1
            subst e1
            obtain ⟨y, rfl, hy⟩ := g0
            have hb2 := hb.2
            rw [Bool.and_eq_true] at hb2
            exact tx_last he (kB_slotL hB k1 k2 (kjl_ok _ _ hb2.1 x.toNatClampNeg k4 k5)) k3 (hg _ List.mem_cons_self σ L' _ B I _ ⟨h1, h2, h3, h4⟩ hB (kI_putJ hI (kjm_ok _ _ hb2.2 x.toNatClampNeg k4 k5)))
        · cases h
      · cases h
  case baload =>
    simp only [kstep4] at h
    cases hz : kz4 (.baload, ea, eb, ez) with
    | false => rw [hz] at h; cases h
    | true =>
      rw [hz] at h
      obtain ⟨rfl, rfl, rfl⟩ := kz4_ok hz
      simp only [cond_true, kBald] at h
      split at h
      · rename_i j v S'
        split at h
        · rename_i q hq
          split at h
          · rename_i w hw
            cases h
            intro σ L' st B I J ⟨h1, h2, h3, h4⟩ hB hI
            obtain ⟨wj, st1, rfl, g1, wv, st2, rfl, g2, h3⟩ := h3
            obtain ⟨x, m, rfl, rfl, k1, k2, k3, k4, k5, k6, k7, k8, k9⟩ := kix_ok h1 g1 g2 hq
            obtain ⟨m1, m2, m3⟩ := kjn_ok _ _ hw x.toNatClampNeg k4 k5
            have b := hI.1 q.1 _ x.toNatClampNeg k1 k2 m1
            refine tx_bald he (kB_slot hB k1 k2 m1) k3 (hg _ List.mem_cons_self (σ ++ [(I q.1 x.toNatClampNeg).toInt]) L' _ B I J ⟨?_, ?_, ?_, ?_⟩ hB hI)
            · rw [← List.append_assoc]; exact kin_app h1 (by omega) (by omega)
            · rw [← List.append_assoc]; exact kvl_ap h2
            · rw [← List.append_assoc]; exact ⟨_, _, rfl, ⟨_, rfl, _, kin_new h1, by simp⟩, kvs_ap h3⟩
            · rw [← List.append_assoc]; exact kov_ap h4
          · cases h
        · cases h
      · cases h
  case bastore =>
    simp only [kstep4] at h
    cases hz : kz4 (.bastore, ea, eb, ez) with
    | false => rw [hz] at h; cases h
    | true =>
      rw [hz] at h
      obtain ⟨rfl, rfl, rfl⟩ := kz4_ok hz
      simp only [cond_true, kBast] at h
      split at h
      · rename_i u j v S'
        split at h
        · rename_i q hq
          cases hb : (Nat.beq u.1 0 && kmt T q.1 (-128) 127 q.2.1 q.2.2.1) with
          | false => rw [hb] at h; cases h
          | true =>
            rw [hb] at h
            cases h
            rw [Bool.and_eq_true] at hb
            intro σ L' st B I J ⟨h1, h2, h3, h4⟩ hB hI
            obtain ⟨wu, st0, rfl, g0, wj, st1, rfl, g1, wv, st2, rfl, g2, h3⟩ := h3
            obtain ⟨x, m, rfl, rfl, k1, k2, k3, k4, k5, k6, k7, k8, k9⟩ := kix_ok h1 g1 g2 hq
            obtain ⟨tu, iu, cu⟩ := u
            have e1 := Nat.eq_of_beq_eq_true hb.1
            dsimp only at e1
            subst e1
            obtain ⟨y, rfl, hy⟩ := g0
            obtain ⟨m1, m2, m3, m4⟩ := kmt_ok _ _ hb.2 x.toNatClampNeg k4 k5
            have b8 := ti_b8 y
            refine tx_bast he (kB_slot hB k1 k2 m1) k3 (hg _ List.mem_cons_self σ L' _ B _ J ⟨h1, h2, h3, ?_⟩ hB (kI_put hI m4 (fun _ => ⟨by omega, by omega⟩)))
            exact kkill_ok h1 (by rw [k6]; exact k7) (by omega) (by omega) h4
        · cases h
      · cases h
  all_goals cases h
end KS6
