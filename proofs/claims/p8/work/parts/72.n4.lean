/-! SHIFTS; LONGS; ROWS OF REFERENCES -/
theorem ti_shr {x : Int32} {k : Nat} (hk : k < 32) : (x >>> (Int32.ofNat k &&& 31)).toInt = x.toInt / 2 ^ k := by
  have h : ∀ k, k < 32 → ((Int32.ofNat k &&& 31).toBitVec.smod 32).toNat = k := by decide
  rw [← Int32.toInt_toBitVec, Int32.toBitVec_shiftRight, BitVec.sshiftRight_eq', BitVec.toInt_sshiftRight, Int32.toInt_toBitVec, h k hk, Int.shiftRight_eq_div_pow]
  norm_cast
def nshr (E : kE) (x y : kV) : Option (kE × kV × List kF) := match kiv E x with
  | some bx => (match kiv E y with
    | some b2 => bif decide (b2.1 = b2.2) && (decide (0 ≤ b2.1) && decide (b2.1 < 32)) then some (E ++ [(bx.1 / 2 ^ b2.1.toNat, bx.2 / 2 ^ b2.1.toNat)], (0, E.length, 0), []) else none
    | none => none)
  | none => none
theorem nshr_ok : nbok (fun x y => x >>> (y &&& 31)) nshr := by
  intro E x y E' v D' h
  unfold nshr at h
  split at h
  · rename_i bx hbx
    split at h
    · rename_i b2 hb2
      cases hc : (decide (b2.1 = b2.2) && (decide (0 ≤ b2.1) && decide (b2.1 < 32))) with
      | false => rw [hc] at h; cases h
      | true =>
        rw [hc] at h
        cases h
        simp only [Bool.and_eq_true, decide_eq_true_eq] at hc
        refine ⟨rfl, fun ρ p q h1 hp hq => ?_⟩
        have bp := kiv_in h1 hp hbx
        have bq := kiv_in h1 hq hb2
        have e : q = Int32.ofNat b2.1.toNat := Int32.toInt_inj.mp (by rw [nI_toInt' (by omega)]; omega)
        have hp2 : (0 : Int) < 2 ^ b2.1.toNat := Int.pow_pos (by omega)
        have er : (p >>> (q &&& 31)).toInt = p.toInt / 2 ^ b2.1.toNat := by
          rw [e]
          exact ti_shr (by omega)
        exact nfr_ok h1 (by rw [er]; exact Int.ediv_le_ediv hp2 bp.1) (by rw [er]; exact Int.ediv_le_ediv hp2 bp.2) (fun f hf => by cases hf)
    · cases h
  · cases h
theorem tl_add {x y : Int64} (h1 : klmin ≤ x.toInt + y.toInt) (h2 : x.toInt + y.toInt ≤ klmax) : (x + y).toInt = x.toInt + y.toInt := by
  rw [Int64.toInt_add]
  unfold klmin klmax at *
  exact Int.bmod_eq_of_le (by omega) (by omega)
theorem tl_sub {x y : Int64} (h1 : klmin ≤ x.toInt - y.toInt) (h2 : x.toInt - y.toInt ≤ klmax) : (x - y).toInt = x.toInt - y.toInt := by
  rw [Int64.toInt_sub]
  unfold klmin klmax at *
  exact Int.bmod_eq_of_le (by omega) (by omega)
theorem tl_mul {x y : Int64} (h1 : klmin ≤ x.toInt * y.toInt) (h2 : x.toInt * y.toInt ≤ klmax) : (x * y).toInt = x.toInt * y.toInt := by
  rw [Int64.toInt_mul]
  unfold klmin klmax at *
  exact Int.bmod_eq_of_le (by omega) (by omega)
theorem tl_div {x y : Int64} (h : 0 < y.toInt) (h0 : 0 ≤ x.toInt) : (x / y).toInt = x.toInt.tdiv y.toInt := by
  rw [Int64.toInt_div]
  have hx := tl_bd x
  unfold klmin klmax at hx
  have h1 : (x.toInt.tdiv y.toInt).natAbs ≤ x.toInt.natAbs := Int.natAbs_tdiv_le_natAbs _ _
  apply Int.bmod_eq_of_le
  · omega
  · omega
theorem tl_rem {x y : Int64} (h : 0 < y.toInt) (h0 : 0 ≤ x.toInt) : (x - x / y * y).toInt = x.toInt.tmod y.toInt := by
  have hx := tl_bd x
  have h1 := tl_div (x := x) h h0
  have h2 : x.toInt.tdiv y.toInt * y.toInt = x.toInt - x.toInt.tmod y.toInt := by
    have := Int.tdiv_mul_add_tmod x.toInt y.toInt
    omega
  have h3 : (x.toInt.tmod y.toInt).natAbs ≤ x.toInt.natAbs := by
    rw [Int.natAbs_tmod]
    exact Nat.mod_le _ _
  have h5 := Int.tmod_nonneg y.toInt h0
  unfold klmin klmax at hx
  have h4 : (x / y * y).toInt = x.toInt - x.toInt.tmod y.toInt := by
    rw [tl_mul (by rw [h1, h2]; unfold klmin; omega) (by rw [h1, h2]; unfold klmax; omega), h1, h2]
  rw [tl_sub (by unfold klmin; omega) (by unfold klmax; omega), h4]
  omega
/-- a step with two longs -/
def nbokL (g : Int64 → Int64 → Int64) (F : kE → kV → kV → Option (kE × kV × List kF)) : Prop := ∀ E x y E' v D', F E x y = some (E', v, D') → v.1 = 1 ∧ ∀ ρ p q, kin ρ E → knum ρ x (Int64.toInt p) → knum ρ y (Int64.toInt q) → q ≠ 0 → ∃ σ, kin (ρ ++ σ) E' ∧ knum (ρ ++ σ) v (g p q).toInt ∧ kfs (ρ ++ σ) D'
/-- the divisor can't be 0 -/
def nnz (nz : Bool) (E : kE) (y : kV) : Bool := match kiv E y with
  | some b => decide (1 ≤ b.1) || decide (b.2 ≤ -1)
  | none => false
def nb2L (F : kE → kV → kV → Option (kE × kV × List kF)) (pc : Nat) (x : nS) : nX := match x.1.2.2.1 with
  | y :: z :: S => bif (Nat.beq z.1 1 && Nat.beq y.1 1) && nnz true x.1.1 y then (match F x.1.1 z y with
    | some q => some [(pc + 1, ((q.1, x.1.2.1, q.2.1 :: S, x.1.2.2.2), q.2.2 ++ x.2))]
    | none => none) else none
  | _ => none
section NO
variable {T : kT} {C : kQ} {sc : List Int32} {r : xR} {ρ0 : List Int} {pc : Nat} {D : List kF} {Q : Option Value → xM → Prop} {outs : List (Nat × nS)} {e : xE} {x : nS}
theorem nb2L_ok {g : Int64 → Int64 → Int64} {F : kE → kV → kV → Option (kE × kV × List kF)} (hF : nbokL g F) (he : xat r.1 pc = some e) (hk : xkind e = 0) (hx : ∀ L (p q : Int64) st M, q ≠ 0 → x1 xty xdf sc e pc L (.long q :: .long p :: st) M = some (pc + 1, L, .long (g p q) :: st, M)) (h : nb2L F pc x = some outs) (hg : ∀ q ∈ outs, nG T C sc r ρ0 q.1 q.2 Q) : nG T C sc r ρ0 pc x Q := by
  obtain ⟨⟨E, L, S, O⟩, D⟩ := x
  unfold nb2L at h
  dsimp only at h
  split at h
  · rename_i y z S'
    cases hb : ((Nat.beq z.1 1 && Nat.beq y.1 1) && nnz true E y) with
    | false => rw [hb] at h; cases h
    | true =>
      rw [hb] at h
      simp only [cond_true] at h
      rw [Bool.and_eq_true, Bool.and_eq_true] at hb
      split at h
      · rename_i q hq
        obtain ⟨E', v, D'⟩ := q
        cases h
        obtain ⟨tv, hF2⟩ := hF _ _ _ _ _ _ hq
        intro σ L' st B I J ⟨h1, h2, h3, h4⟩ hD hB hI
        obtain ⟨w1, st1, rfl, g1, w2, st2, rfl, g2, h3⟩ := h3
        obtain ⟨t1, j1, c1⟩ := z
        obtain ⟨t2, j2, c2⟩ := y
        have e1 := Nat.eq_of_beq_eq_true hb.1.1
        have e2 := Nat.eq_of_beq_eq_true hb.1.2
        dsimp only at e1 e2
        subst e1 e2
        obtain ⟨q, rfl, hq⟩ := id g1
        obtain ⟨p, rfl, hp⟩ := id g2
        have hnz : q ≠ 0 := fun e0 => by
          have h5 := hb.2
          unfold nnz at h5
          split at h5
          · rename_i b hbv
            have := kiv_in h1 hq hbv
            rw [e0] at this
            have z0 : (0 : Int64).toInt = 0 := rfl
            simp only [Bool.or_eq_true, decide_eq_true_eq] at h5
            omega
          · cases h5
        obtain ⟨τ, k1, k2, k3⟩ := hF2 _ p q h1 hp hq hnz
        obtain ⟨tv', vi, vc⟩ := v
        dsimp only at tv
        subst tv
        refine sw_0 he hk (hx _ _ _ _ _ hnz) (hg _ List.mem_cons_self (σ ++ τ) L' (.long (g p q) :: st2) B I J ⟨?_, ?_, ?_, ?_⟩ ?_ hB hI)
        · rw [← List.append_assoc]; exact k1
        · rw [← List.append_assoc]; exact kvl_ap h2
        · rw [← List.append_assoc]; exact ⟨_, _, rfl, ⟨_, rfl, k2⟩, kvs_ap h3⟩
        · rw [← List.append_assoc]; exact kov_ap h4
        · rw [← List.append_assoc]; exact kfs_app k3 (kfs_ap hD)
      · cases h
  · cases h
theorem nfrL_ok {ρ : List Int} {E : kE} {b : Int × Int} {r : Int} {D : List kF} (h : kin ρ E) (h1 : b.1 ≤ r) (h2 : r ≤ b.2) (hD : kfs (ρ ++ [r]) D) : ∃ σ, kin (ρ ++ σ) (E ++ [b]) ∧ knum (ρ ++ σ) (1, E.length, 0) r ∧ kfs (ρ ++ σ) D := ⟨[r], kin_app h h1 h2, ⟨r, kin_new h, by simp⟩, hD⟩
/-- quotients: any long -/
def nldv (E : kE) (_ _ : kV) : Option (kE × kV × List kF) := some (E ++ [(klmin, klmax)], (1, E.length, 0), [])
theorem nldv_ok {g : Int64 → Int64 → Int64} : nbokL g nldv := by
  intro E x y E' v D' h
  cases h
  refine ⟨rfl, fun ρ p q h1 hp hq _ => ?_⟩
  have := tl_bd (g p q)
  exact nfrL_ok h1 this.1 this.2 (fun f hf => by cases hf)
/-- rests: below the divisor -/
def nlrm (E : kE) (x y : kV) : Option (kE × kV × List kF) := match kiv E x with
  | some bx => (match kiv E y with
    | some b2 => bif decide (0 ≤ bx.1) && decide (1 ≤ b2.1) then some (E ++ [(0, b2.2 - 1)], (1, E.length, 0), [([(1, E.length), (-1, y.2.1)], y.2.2 - 1)]) else nldv E x y
    | none => none)
  | none => none
theorem nlrm_ok : nbokL (fun x y => x - x / y * y) nlrm := by
  intro E x y E' v D' h
  unfold nlrm at h
  split at h
  · rename_i bx hbx
    split at h
    · rename_i b2 hb2
      cases hc : (decide (0 ≤ bx.1) && decide (1 ≤ b2.1)) with
      | false => rw [hc] at h; exact nldv_ok E x y E' v D' h
      | true =>
        rw [hc] at h
        cases h
        simp only [Bool.and_eq_true, decide_eq_true_eq] at hc
        refine ⟨rfl, fun ρ p q h1 hp hq _ => ?_⟩
        have bp := kiv_in h1 hp hbx
        have bq := kiv_in h1 hq hb2
        have er := tl_rem (x := p) (y := q) (by omega) (by omega)
        have m0 := Int.tmod_nonneg q.toInt (show 0 ≤ p.toInt by omega)
        have m1 := Int.tmod_lt_of_pos p.toInt (show 0 < q.toInt by omega)
        refine nfrL_ok h1 (by rw [er]; exact m0) (by rw [er]; dsimp only; omega) ?_
        obtain ⟨w, k3, k4⟩ := hq
        refine kfs_cons ⟨_, kls_two (kin_new h1) (xnth_ap k3), ?_⟩ (fun f hf => by cases hf)
        dsimp only
        rw [er]
        omega
    · cases h
  · cases h
/-- a long more, or less, by a constant -/
def naddL (s : Int) (pc : Nat) (x : nS) : nX := match x.1.2.2.1 with
  | y :: z :: S => bif Nat.beq z.1 1 && Nat.beq y.1 1 then (match kadd 1 klmin klmax s x.1.1 z y with
    | some q => some [(pc + 1, ((q.1, x.1.2.1, q.2 :: S, x.1.2.2.2), x.2))]
    | none => none) else none
  | _ => none
theorem naddL_ok {s : Int} {g : Int64 → Int64 → Int64} (hs : s = 1 ∨ s = -1) (hr : ∀ p q : Int64, klmin ≤ p.toInt + s * q.toInt → p.toInt + s * q.toInt ≤ klmax → (g p q).toInt = p.toInt + s * q.toInt) (he : xat r.1 pc = some e) (hk : xkind e = 0) (hx : ∀ L (p q : Int64) st M, x1 xty xdf sc e pc L (.long q :: .long p :: st) M = some (pc + 1, L, .long (g p q) :: st, M)) (h : naddL s pc x = some outs) (hg : ∀ q ∈ outs, nG T C sc r ρ0 q.1 q.2 Q) : nG T C sc r ρ0 pc x Q := by
  obtain ⟨⟨E, L, S, O⟩, D⟩ := x
  unfold naddL at h
  dsimp only at h
  split at h
  · rename_i y z S'
    cases hb : (Nat.beq z.1 1 && Nat.beq y.1 1) with
    | false => rw [hb] at h; cases h
    | true =>
      rw [hb] at h
      simp only [cond_true] at h
      rw [Bool.and_eq_true] at hb
      split at h
      · rename_i q hq
        obtain ⟨E', v⟩ := q
        cases h
        intro σ L' st B I J ⟨h1, h2, h3, h4⟩ hD hB hI
        obtain ⟨w1, st1, rfl, g1, w2, st2, rfl, g2, h3⟩ := h3
        obtain ⟨t1, j1, c1⟩ := z
        obtain ⟨t2, j2, c2⟩ := y
        have e1 := Nat.eq_of_beq_eq_true hb.1
        have e2 := Nat.eq_of_beq_eq_true hb.2
        dsimp only at e1 e2
        subst e1 e2
        obtain ⟨q, rfl, hq2⟩ := id g1
        obtain ⟨p, rfl, hp⟩ := id g2
        have b := tl_bd (g p q)
        obtain ⟨τ, k1, k2, k3⟩ := kadd_ok (r := (g p q).toInt) hs h1 hp hq2 (fun u1 u2 => hr p q u1 u2) b.1 b.2 hq
        obtain ⟨tv', vi, vc⟩ := v
        dsimp only at k3
        subst k3
        refine sw_0 he hk (hx _ _ _ _ _) (hg _ List.mem_cons_self (σ ++ τ) L' (.long (g p q) :: st2) B I J ⟨?_, ?_, ?_, ?_⟩ ?_ hB hI)
        · rw [← List.append_assoc]; exact k1
        · rw [← List.append_assoc]; exact kvl_ap h2
        · rw [← List.append_assoc]; exact ⟨_, _, rfl, ⟨_, rfl, k2⟩, kvs_ap h3⟩
        · rw [← List.append_assoc]; exact kov_ap h4
        · rw [← List.append_assoc]; exact kfs_ap hD
      · cases h
  · cases h
/-- Math.abs: any int -/
def nabs (pc : Nat) (x : nS) : nX := match x.1.2.2.1 with
  | y :: S => bif Nat.beq y.1 0 && Nat.ble (kcs S) 8 then some [(pc + 3, ((x.1.1 ++ [(kmin, kmax)], x.1.2.1, (0, x.1.1.length, 0) :: S, x.1.2.2.2), x.2))] else none
  | _ => none
theorem nabs_ok {i : Nat} {b : Nat} {z : Int} (he : xat r.1 pc = some (.invokestatic i, 5004, b, z)) (h : nabs pc x = some outs) (hg : ∀ q ∈ outs, nG T C sc r ρ0 q.1 q.2 Q) : nG T C sc r ρ0 pc x Q := by
  obtain ⟨⟨E, L, S, O⟩, D⟩ := x
  unfold nabs at h
  dsimp only at h
  split at h
  · rename_i y S'
    cases hb : (Nat.beq y.1 0 && Nat.ble (kcs S') 8) with
    | false => rw [hb] at h; cases h
    | true =>
      rw [hb] at h
      cases h
      rw [Bool.and_eq_true] at hb
      intro σ L' st B I J ⟨h1, h2, h3, h4⟩ hD hB hI
      obtain ⟨w1, st1, rfl, g1, h3⟩ := h3
      obtain ⟨t1, j1, c1⟩ := y
      have e1 := Nat.eq_of_beq_eq_true hb.1
      dsimp only at e1
      subst e1
      obtain ⟨q, rfl, hq⟩ := id g1
      have bd := ti_bd (if 0 ≤ q then q else 0 - q)
      refine sw_0 he rfl (show _ = some (pc + 3, L', .int (if 0 ≤ q then q else 0 - q) :: st1, tMem B I J) from ?_) (hg _ List.mem_cons_self (σ ++ [(if 0 ≤ q then q else 0 - q : Int32).toInt]) L' (.int (if 0 ≤ q then q else 0 - q) :: st1) B I J ⟨?_, ?_, ?_, ?_⟩ ?_ hB hI)
      · show (bif xcat8 st1 then _ else none) = _
        rw [kcat8 h3 hb.2]
        rfl
      · rw [← List.append_assoc]; exact kin_app h1 bd.1 bd.2
      · rw [← List.append_assoc]; exact kvl_ap h2
      · rw [← List.append_assoc]; exact ⟨_, _, rfl, ⟨_, rfl, _, kin_new h1, by simp⟩, kvs_ap h3⟩
      · rw [← List.append_assoc]; exact kov_ap h4
      · rw [← List.append_assoc]; exact kfs_ap hD
  · cases h
end NO
/-! rests and quotients of what is known; products of longs -/
def nqr (rm : Bool) (pc : Nat) (x : nS) : nX := match x.1.2.2.1 with
  | y :: z :: S => bif Nat.beq z.1 0 && Nat.beq y.1 0 then (match kiv x.1.1 z with
    | some bz => (match kiv x.1.1 y with
      | some b2 => bif kz x.1.1 && (decide (bz.1 = bz.2) && (decide (b2.1 = b2.2) && decide (0 < b2.1))) then some [(pc + 1, ((x.1.1, x.1.2.1, (0, 0, bif rm then bz.1.tmod b2.1 else bz.1.tdiv b2.1) :: S, x.1.2.2.2), x.2))] else none
      | none => none)
    | none => none) else none
  | _ => none
section NQ
variable {T : kT} {C : kQ} {sc : List Int32} {r : xR} {ρ0 : List Int} {pc : Nat} {D : List kF} {Q : Option Value → xM → Prop} {outs : List (Nat × nS)} {e : xE} {x : nS}
theorem nqr_ok {rm : Bool} (he : xat r.1 pc = some e) (hk : xkind e = 0) (hx : ∀ L (p q : Int32) st M, 0 < q.toInt → x1 xty xdf sc e pc L (.int q :: .int p :: st) M = some (pc + 1, L, .int (bif rm then p - p / q * q else p / q) :: st, M)) (h : nqr rm pc x = some outs) (hg : ∀ q ∈ outs, nG T C sc r ρ0 q.1 q.2 Q) : nG T C sc r ρ0 pc x Q := by
  obtain ⟨⟨E, L, S, O⟩, D⟩ := x
  unfold nqr at h
  dsimp only at h
  split at h
  · rename_i y z S'
    cases hb : (Nat.beq z.1 0 && Nat.beq y.1 0) with
    | false => rw [hb] at h; cases h
    | true =>
      rw [hb] at h
      simp only [cond_true] at h
      rw [Bool.and_eq_true] at hb
      split at h
      · rename_i bz hbz
        split at h
        · rename_i b2 hb2
          cases hc : (kz E && (decide (bz.1 = bz.2) && (decide (b2.1 = b2.2) && decide (0 < b2.1)))) with
          | false => rw [hc] at h; cases h
          | true =>
            rw [hc] at h
            cases h
            simp only [Bool.and_eq_true, decide_eq_true_eq] at hc
            obtain ⟨c0, c1, c2, c3⟩ := hc
            intro σ L' st B I J ⟨h1, h2, h3, h4⟩ hD hB hI
            obtain ⟨w1, st1, rfl, g1, w2, st2, rfl, g2, h3⟩ := h3
            obtain ⟨t1, j1, d1⟩ := z
            obtain ⟨t2, j2, d2⟩ := y
            have e1 := Nat.eq_of_beq_eq_true hb.1
            have e2 := Nat.eq_of_beq_eq_true hb.2
            dsimp only at e1 e2
            subst e1 e2
            obtain ⟨q, rfl, hq⟩ := id g1
            obtain ⟨p, rfl, hp⟩ := id g2
            have bp := kiv_in h1 hp hbz
            have bq := kiv_in h1 hq hb2
            have q0 : 0 < q.toInt := by omega
            have ep : p.toInt = bz.1 := by omega
            have eq : q.toInt = b2.1 := by omega
            refine sw_0 he hk (hx _ _ _ _ _ q0) (hg _ List.mem_cons_self σ L' _ B I J ⟨h1, h2, ⟨_, _, rfl, ⟨_, rfl, ?_⟩, h3⟩, h4⟩ hD hB hI)
            have er : (bif rm then p - p / q * q else p / q : Int32).toInt = (bif rm then bz.1.tmod b2.1 else bz.1.tdiv b2.1) := by
              cases rm with
              | true =>
                simp only [cond_true]
                rw [ti_rem q0, ep, eq]
              | false =>
                simp only [cond_false]
                rw [ti_div q0, ep, eq]
            rw [er]
            exact kz_ok h1 c0 _ 0
        · cases h
      · cases h
  · cases h
end NQ
def nlml (pc : Nat) (x : nS) : nX := match x.1.2.2.1 with
  | y :: z :: S => bif Nat.beq z.1 1 && Nat.beq y.1 1 then (match kiv x.1.1 z with
    | some bz => (match kiv x.1.1 y with
      | some b2 => bif decide (0 ≤ bz.1) && (decide (0 ≤ b2.1) && decide (bz.2 * b2.2 ≤ klmax)) then some [(pc + 1, ((x.1.1 ++ [(bz.1 * b2.1, bz.2 * b2.2)], x.1.2.1, (1, x.1.1.length, 0) :: S, x.1.2.2.2), x.2))] else none
      | none => none)
    | none => none) else none
  | _ => none
section NQ2
variable {T : kT} {C : kQ} {sc : List Int32} {r : xR} {ρ0 : List Int} {pc : Nat} {D : List kF} {Q : Option Value → xM → Prop} {outs : List (Nat × nS)} {e : xE} {x : nS}
theorem nlml_ok (he : xat r.1 pc = some e) (hk : xkind e = 0) (hx : ∀ L (p q : Int64) st M, x1 xty xdf sc e pc L (.long q :: .long p :: st) M = some (pc + 1, L, .long (p * q) :: st, M)) (h : nlml pc x = some outs) (hg : ∀ q ∈ outs, nG T C sc r ρ0 q.1 q.2 Q) : nG T C sc r ρ0 pc x Q := by
  obtain ⟨⟨E, L, S, O⟩, D⟩ := x
  unfold nlml at h
  dsimp only at h
  split at h
  · rename_i y z S'
    cases hb : (Nat.beq z.1 1 && Nat.beq y.1 1) with
    | false => rw [hb] at h; cases h
    | true =>
      rw [hb] at h
      simp only [cond_true] at h
      rw [Bool.and_eq_true] at hb
      split at h
      · rename_i bz hbz
        split at h
        · rename_i b2 hb2
          cases hc : (decide (0 ≤ bz.1) && (decide (0 ≤ b2.1) && decide (bz.2 * b2.2 ≤ klmax))) with
          | false => rw [hc] at h; cases h
          | true =>
            rw [hc] at h
            cases h
            simp only [Bool.and_eq_true, decide_eq_true_eq] at hc
            obtain ⟨c1, c2, c3⟩ := hc
            intro σ L' st B I J ⟨h1, h2, h3, h4⟩ hD hB hI
            obtain ⟨w1, st1, rfl, g1, w2, st2, rfl, g2, h3⟩ := h3
            obtain ⟨t1, j1, d1⟩ := z
            obtain ⟨t2, j2, d2⟩ := y
            have e1 := Nat.eq_of_beq_eq_true hb.1
            have e2 := Nat.eq_of_beq_eq_true hb.2
            dsimp only at e1 e2
            subst e1 e2
            obtain ⟨q, rfl, hq⟩ := id g1
            obtain ⟨p, rfl, hp⟩ := id g2
            have bp := kiv_in h1 hp hbz
            have bq := kiv_in h1 hq hb2
            have m1 : bz.1 * b2.1 ≤ p.toInt * q.toInt := Int.mul_le_mul bp.1 bq.1 c2 (by omega)
            have m0 : 0 ≤ bz.1 * b2.1 := Int.mul_nonneg c1 c2
            have m2 : p.toInt * q.toInt ≤ bz.2 * b2.2 := Int.mul_le_mul bp.2 bq.2 (by omega) (by omega)
            have kk : klmin ≤ 0 := by decide
            have er := tl_mul (x := p) (y := q) (by omega) (by omega)
            refine sw_0 he hk (hx _ _ _ _ _) (hg _ List.mem_cons_self (σ ++ [(p * q).toInt]) L' (.long (p * q) :: st2) B I J ⟨?_, ?_, ?_, ?_⟩ ?_ hB hI)
            · rw [← List.append_assoc]; exact kin_app h1 (by rw [er]; exact m1) (by rw [er]; exact m2)
            · rw [← List.append_assoc]; exact kvl_ap h2
            · rw [← List.append_assoc]; exact ⟨_, _, rfl, ⟨_, rfl, _, kin_new h1, by simp⟩, kvs_ap h3⟩
            · rw [← List.append_assoc]; exact kov_ap h4
            · rw [← List.append_assoc]; exact kfs_ap hD
        · cases h
      · cases h
  · cases h
end NQ2
