/-! TWO INTS: SUMS WITH FACTS, PRODUCTS, BITS -/
theorem nfr_ok {ρ : List Int} {E : kE} {b : Int × Int} {r : Int} {D : List kF} (h : kin ρ E) (h1 : b.1 ≤ r) (h2 : r ≤ b.2) (hD : kfs (ρ ++ [r]) D) : ∃ σ, kin (ρ ++ σ) (E ++ [b]) ∧ knum (ρ ++ σ) (0, E.length, 0) r ∧ kfs (ρ ++ σ) D := ⟨[r], kin_app h h1 h2, ⟨r, kin_new h, by simp⟩, hD⟩
def nadd (s : Int) (E : kE) (x y : kV) : Option (kE × kV × List kF) := match kiv E x with
  | some bx => (match kiv E y with
    | some b2 => bif Nat.beq x.2.1 0 || Nat.beq y.2.1 0 then (bif Nat.beq x.2.1 0 && (kz E && (decide (s = 1) && (decide (kmin ≤ b2.1 + x.2.2) && decide (b2.2 + x.2.2 ≤ kmax)))) then some (E, (0, y.2.1, y.2.2 + x.2.2), []) else none) else
      bif decide (kmin ≤ bx.1 + min (s * b2.1) (s * b2.2)) && decide (bx.2 + max (s * b2.1) (s * b2.2) ≤ kmax) then some (E ++ [(bx.1 + min (s * b2.1) (s * b2.2), bx.2 + max (s * b2.1) (s * b2.2))], (0, E.length, 0), [([(1, E.length), (-1, x.2.1), (-s, y.2.1)], x.2.2 + s * y.2.2), ([(-1, E.length), (1, x.2.1), (s, y.2.1)], -(x.2.2 + s * y.2.2))]) else none
    | none => none)
  | none => none
theorem nadd_ok {s : Int} {g : Int32 → Int32 → Int32} (hs : s = 1 ∨ s = -1) (hr : ∀ p q : Int32, kmin ≤ p.toInt + s * q.toInt → p.toInt + s * q.toInt ≤ kmax → (g p q).toInt = p.toInt + s * q.toInt) : nbok g (nadd s) := by
  intro E x y E' v D' h
  unfold nadd at h
  split at h
  · rename_i bx hbx
    split at h
    · rename_i b2 hb2
      cases hc : (Nat.beq x.2.1 0 || Nat.beq y.2.1 0) with
      | true =>
        rw [hc] at h
        simp only [cond_true] at h
        cases hd : (Nat.beq x.2.1 0 && (kz E && (decide (s = 1) && (decide (kmin ≤ b2.1 + x.2.2) && decide (b2.2 + x.2.2 ≤ kmax))))) with
        | false => rw [hd] at h; cases h
        | true =>
          rw [hd] at h
          cases h
          simp only [Bool.and_eq_true, decide_eq_true_eq] at hd
          obtain ⟨d1, d2, d3, d4, d5⟩ := hd
          refine ⟨rfl, fun ρ p q h1 hp hq => ⟨[], by simpa using h1, ?_, fun f hf => by cases hf⟩⟩
          have ep : p.toInt = x.2.2 := by
            obtain ⟨tx, ix, cx⟩ := x
            have e0 := Nat.eq_of_beq_eq_true d1
            dsimp only at e0
            subst e0
            exact ti_cst h1 d2 hp
          have bq := kiv_in h1 hq hb2
          subst d3
          rw [hr p q (by omega) (by omega), ep, List.append_nil]
          obtain ⟨z, k1, k2⟩ := hq
          exact ⟨z, k1, by dsimp only; omega⟩
      | false =>
        rw [hc] at h
        simp only [cond_false] at h
        cases hd : (decide (kmin ≤ bx.1 + min (s * b2.1) (s * b2.2)) && decide (bx.2 + max (s * b2.1) (s * b2.2) ≤ kmax)) with
        | false => rw [hd] at h; cases h
        | true =>
          rw [hd] at h
          cases h
          simp only [Bool.and_eq_true, decide_eq_true_eq] at hd
          refine ⟨rfl, fun ρ p q h1 hp hq => ?_⟩
          have bp := kiv_in h1 hp hbx
          have bq := kiv_in h1 hq hb2
          have hb : bx.1 + min (s * b2.1) (s * b2.2) ≤ p.toInt + s * q.toInt ∧ p.toInt + s * q.toInt ≤ bx.2 + max (s * b2.1) (s * b2.2) := by
            rcases hs with e | e
            · subst e; omega
            · subst e; omega
          have er := hr p q (by omega) (by omega)
          refine nfr_ok h1 (by rw [er]; exact hb.1) (by rw [er]; exact hb.2) ?_
          obtain ⟨z, k1, k2⟩ := hp
          obtain ⟨w, k3, k4⟩ := hq
          have n1 : xnth (ρ ++ [(g p q).toInt]) E.length = some (g p q).toInt := kin_new h1
          refine kfs_cons ⟨_, kls_three n1 (xnth_ap k1) (xnth_ap k3), ?_⟩ (kfs_cons ⟨_, kls_three n1 (xnth_ap k1) (xnth_ap k3), ?_⟩ (fun f hf => by cases hf))
          · dsimp only
            rw [er, k2, k4]
            rcases hs with e | e
            · subst e; omega
            · subst e; omega
          · dsimp only
            rw [er, k2, k4]
            rcases hs with e | e
            · subst e; omega
            · subst e; omega
    · cases h
  · cases h
theorem nadd_1 : nbok (fun x y => x + y) (nadd 1) := nadd_ok (Or.inl rfl) (fun p q h1 h2 => by
  rw [Int.one_mul] at h1 h2 ⊢
  exact ti_add h1 h2)
theorem nadd_2 : nbok (fun x y => x - y) (nadd (-1)) := nadd_ok (Or.inr rfl) (fun p q h1 h2 => by
  have e : (-1 : Int) * q.toInt = - q.toInt := by omega
  rw [e] at h1 h2 ⊢
  rw [ti_sub (by unfold kmin at h1; omega) (by unfold kmax at h2; omega)]
  omega)
theorem ti_nn {x : Int32} (h : 0 ≤ x.toInt) : x.toInt = (x.toBitVec.toNat : Int) := by
  have := Int32.toInt_toBitVec x
  rw [← this] at h ⊢
  rw [BitVec.toInt_eq_toNat_cond] at h ⊢
  split at h
  · rename_i hc; rw [if_pos hc]
  · have := x.toBitVec.isLt; omega
theorem ti_or {x y : Int32} {n : Nat} (hn : n ≤ 31) (hx : 0 ≤ x.toInt) (hy : 0 ≤ y.toInt) (h1 : x.toInt < 2 ^ n) (h2 : y.toInt < 2 ^ n) : 0 ≤ (x ||| y).toInt ∧ (x ||| y).toInt < 2 ^ n := by
  have e1 := ti_nn hx
  have e2 := ti_nn hy
  rw [e1] at h1
  rw [e2] at h2
  have h1' : x.toBitVec.toNat < 2 ^ n := by exact_mod_cast h1
  have h2' : y.toBitVec.toNat < 2 ^ n := by exact_mod_cast h2
  have h3 : (x ||| y).toBitVec.toNat < 2 ^ n := by
    rw [Int32.toBitVec_or, BitVec.toNat_or]
    exact Nat.or_lt_two_pow h1' h2'
  have h4 : 2 ^ n ≤ 2 ^ 31 := Nat.pow_le_pow_right (by omega) hn
  have e3 : (x ||| y).toInt = ((x ||| y).toBitVec.toNat : Int) := by
    have := Int32.toInt_toBitVec (x ||| y)
    rw [← this, BitVec.toInt_eq_toNat_cond, if_pos (by omega)]
  rw [e3]
  exact ⟨by omega, by exact_mod_cast h3⟩
def nor (E : kE) (x y : kV) : Option (kE × kV × List kF) := match kiv E x with
  | some bx => (match kiv E y with
    | some b2 => bif (decide (0 ≤ bx.1) && decide (0 ≤ b2.1)) && Nat.ble (Nat.log2 (max bx.2 b2.2).toNat + 1) 31 then some (E ++ [(0, 2 ^ (Nat.log2 (max bx.2 b2.2).toNat + 1) - 1)], (0, E.length, 0), []) else none
    | none => none)
  | none => none
theorem nor_ok : nbok (fun x y => x ||| y) nor := by
  intro E x y E' v D' h
  unfold nor at h
  split at h
  · rename_i bx hbx
    split at h
    · rename_i b2 hb2
      cases hc : ((decide (0 ≤ bx.1) && decide (0 ≤ b2.1)) && Nat.ble (Nat.log2 (max bx.2 b2.2).toNat + 1) 31) with
      | false => rw [hc] at h; cases h
      | true =>
        rw [hc] at h
        cases h
        simp only [Bool.and_eq_true, decide_eq_true_eq] at hc
        refine ⟨rfl, fun ρ p q h1 hp hq => ?_⟩
        have bp := kiv_in h1 hp hbx
        have bq := kiv_in h1 hq hb2
        have hm : (max bx.2 b2.2).toNat < 2 ^ (Nat.log2 (max bx.2 b2.2).toNat + 1) := Nat.lt_log2_self
        have hm' : (((max bx.2 b2.2).toNat : Nat) : Int) < 2 ^ (Nat.log2 (max bx.2 b2.2).toNat + 1) := by exact_mod_cast hm
        have := ti_or (x := p) (y := q) (n := Nat.log2 (max bx.2 b2.2).toNat + 1) (Nat.le_of_ble_eq_true hc.2) (by omega) (by omega) (by omega) (by omega)
        exact nfr_ok h1 this.1 (by dsimp only; omega) (fun f hf => by cases hf)
    · cases h
  · cases h
def nand (E : kE) (x y : kV) : Option (kE × kV × List kF) := match kiv E x with
  | some bx => (match kiv E y with
    | some b2 => bif decide (0 ≤ b2.1) then some (E ++ [(0, b2.2)], (0, E.length, 0), [([(1, E.length), (-1, y.2.1)], y.2.2)]) else bif decide (0 ≤ bx.1) then some (E ++ [(0, bx.2)], (0, E.length, 0), [([(1, E.length), (-1, x.2.1)], x.2.2)]) else none
    | none => none)
  | none => none
theorem nand_ok : nbok (fun x y => x &&& y) nand := by
  intro E x y E' v D' h
  unfold nand at h
  split at h
  · rename_i bx hbx
    split at h
    · rename_i b2 hb2
      cases hc : decide (0 ≤ b2.1) with
      | true =>
        rw [hc] at h
        cases h
        have hc := of_decide_eq_true hc
        refine ⟨rfl, fun ρ p q h1 hp hq => ?_⟩
        have bq := kiv_in h1 hq hb2
        have := ti_and (x := p) (y := q) (by omega)
        refine nfr_ok h1 this.1 (by dsimp only; omega) ?_
        obtain ⟨w, k3, k4⟩ := hq
        refine kfs_cons ⟨_, kls_two (kin_new h1) (xnth_ap k3), ?_⟩ (fun f hf => by cases hf)
        dsimp only
        omega
      | false =>
        rw [hc] at h
        simp only [cond_false] at h
        cases hc2 : decide (0 ≤ bx.1) with
        | false => rw [hc2] at h; cases h
        | true =>
          rw [hc2] at h
          cases h
          have hc2 := of_decide_eq_true hc2
          refine ⟨rfl, fun ρ p q h1 hp hq => ?_⟩
          have bp := kiv_in h1 hp hbx
          have := ti_and (x := q) (y := p) (by omega)
          rw [show q &&& p = p &&& q from Int32.and_comm q p] at this
          refine nfr_ok h1 this.1 (by dsimp only; omega) ?_
          obtain ⟨w, k3, k4⟩ := hp
          refine kfs_cons ⟨_, kls_two (kin_new h1) (xnth_ap k3), ?_⟩ (fun f hf => by cases hf)
          dsimp only
          omega
    · cases h
  · cases h
def nmul (E : kE) (x y : kV) : Option (kE × kV × List kF) := match kiv E x with
  | some bx => (match kiv E y with
    | some b2 => bif (decide (0 ≤ bx.1) && decide (0 ≤ b2.1)) && decide (bx.2 * b2.2 ≤ kmax) then some (E ++ [(0, bx.2 * b2.2)], (0, E.length, 0), []) else none
    | none => none)
  | none => none
theorem nmul_ok : nbok (fun x y => x * y) nmul := by
  intro E x y E' v D' h
  unfold nmul at h
  split at h
  · rename_i bx hbx
    split at h
    · rename_i b2 hb2
      cases hc : ((decide (0 ≤ bx.1) && decide (0 ≤ b2.1)) && decide (bx.2 * b2.2 ≤ kmax)) with
      | false => rw [hc] at h; cases h
      | true =>
        rw [hc] at h
        cases h
        simp only [Bool.and_eq_true, decide_eq_true_eq] at hc
        refine ⟨rfl, fun ρ p q h1 hp hq => ?_⟩
        have bp := kiv_in h1 hp hbx
        have bq := kiv_in h1 hq hb2
        have m1 : 0 ≤ p.toInt * q.toInt := Int.mul_nonneg (by omega) (by omega)
        have m2 : p.toInt * q.toInt ≤ bx.2 * b2.2 := Int.mul_le_mul bp.2 bq.2 (by omega) (by omega)
        have hk : kmax = 2147483647 := rfl
        have e := ti_mul (x := p) (y := q) (by omega) (by omega)
        exact nfr_ok h1 (by rw [e]; exact m1) (by rw [e]; exact m2) (fun f hf => by cases hf)
    · cases h
  · cases h
/-- both are known: so is what comes of them -/
def ncst (g : Int32 → Int32 → Int32) (E : kE) (x y : kV) : Option (kE × kV × List kF) := match kiv E x with
  | some bx => (match kiv E y with
    | some b2 => bif kz E && (decide (bx.1 = bx.2) && (decide (b2.1 = b2.2) && (decide (kmin ≤ bx.1) && (decide (bx.1 ≤ kmax) && (decide (kmin ≤ b2.1) && decide (b2.1 ≤ kmax)))))) then some (E, (0, 0, (g (Int32.ofInt bx.1) (Int32.ofInt b2.1)).toInt), []) else none
    | none => none)
  | none => none
theorem ncst_ok {g : Int32 → Int32 → Int32} : nbok g (ncst g) := by
  intro E x y E' v D' h
  unfold ncst at h
  split at h
  · rename_i bx hbx
    split at h
    · rename_i b2 hb2
      cases hc : (kz E && (decide (bx.1 = bx.2) && (decide (b2.1 = b2.2) && (decide (kmin ≤ bx.1) && (decide (bx.1 ≤ kmax) && (decide (kmin ≤ b2.1) && decide (b2.1 ≤ kmax))))))) with
      | false => rw [hc] at h; cases h
      | true =>
        rw [hc] at h
        cases h
        simp only [Bool.and_eq_true, decide_eq_true_eq] at hc
        obtain ⟨c0, c1, c2, c3, c4, c5, c6⟩ := hc
        refine ⟨rfl, fun ρ p q h1 hp hq => ⟨[], by simpa using h1, ?_, fun f hf => by cases hf⟩⟩
        have bp := kiv_in h1 hp hbx
        have bq := kiv_in h1 hq hb2
        have e1 : Int32.ofInt bx.1 = p := Int32.toInt_inj.mp (by rw [ti_of c3 c4]; omega)
        have e2 : Int32.ofInt b2.1 = q := Int32.toInt_inj.mp (by rw [ti_of c5 c6]; omega)
        rw [e1, e2, List.append_nil]
        exact kz_ok h1 c0 _ 0
    · cases h
  · cases h
