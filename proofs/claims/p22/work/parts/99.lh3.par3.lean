/-! WHAT IS TOLD SO FAR: the class's draft, the reference's new slot -/
theorem ox {a b : Nat} (h : a + b < 2147483648) : (Int32.ofNat a + Int32.ofNat b).toNatClampNeg = a + b := by rw [oi_add, oi_nat h]
def wb (w : Int64) (k : Nat) : Bool := w.toBitVec.getLsbD k
def tb (w : Int32) (k : Nat) : Bool := w.toBitVec.getLsbD k
theorem shc : (List.range 64).all (fun k => decide ((Int32.toInt64 (Int32.ofNat k)).toUInt64 &&& Int64.toUInt64 63 = UInt64.ofNat k) && decide (((1 : Int64) <<< ((Int32.toInt64 (Int32.ofNat k)) &&& 63)).toBitVec = BitVec.twoPow 64 k)) = true := by decide +kernel
theorem nat_and1 (a k : Nat) : (a >>> k) &&& 1 = if a.testBit k = true then 1 else 0 := by
  unfold Nat.testBit
  rw [Nat.and_comm 1]
  have : (a >>> k) &&& 1 = 0 ∨ (a >>> k) &&& 1 = 1 := by
    rw [Nat.and_one_is_mod]
    omega
  rcases this with h | h <;> rw [h] <;> rfl
theorem wb_is {x : Int64} {k : Nat} (hk : k < 64) : lg_cmp (((x.toUInt64 >>> ((Int32.toInt64 (Int32.ofNat k)).toUInt64 &&& Int64.toUInt64 63)).toInt64) &&& 1) 0 = if wb x k = true then 1 else 0 := by
  have hs := List.all_eq_true.mp shc k (List.mem_range.mpr hk)
  rw [Bool.and_eq_true] at hs
  rw [of_decide_eq_true hs.1]
  have hn : (((x.toUInt64 >>> UInt64.ofNat k).toInt64) &&& 1).toBitVec.toNat = if x.toBitVec.toNat.testBit k = true then 1 else 0 := by
    rw [← nat_and1, Int64.toBitVec_and, BitVec.toNat_and]
    have e1 : (1 : Int64).toBitVec.toNat = 1 := rfl
    have e2 : ((x.toUInt64 >>> UInt64.ofNat k).toInt64).toBitVec.toNat = (x.toUInt64 >>> UInt64.ofNat k).toNat := rfl
    rw [e1, e2, UInt64.toNat_shiftRight, UInt64.toNat_ofNat', Nat.mod_eq_of_lt (a := k) (by omega), Nat.mod_eq_of_lt (a := k) (by omega)]
    rfl
  have hw : wb x k = x.toBitVec.toNat.testBit k := rfl
  rw [hw]
  cases hb : x.toBitVec.toNat.testBit k with
  | true =>
    rw [hb, if_pos rfl] at hn
    have : ((x.toUInt64 >>> UInt64.ofNat k).toInt64) &&& 1 = 1 := Int64.toBitVec_inj.mp (BitVec.eq_of_toNat_eq hn)
    rw [this, if_pos rfl]
    rfl
  | false =>
    rw [hb, if_neg (by decide)] at hn
    have : ((x.toUInt64 >>> UInt64.ofNat k).toInt64) &&& 1 = 0 := Int64.toBitVec_inj.mp (BitVec.eq_of_toNat_eq hn)
    rw [this, if_neg (by decide)]
    rfl
theorem wb_or {x : Int64} {k j : Nat} (hk : k < 64) : wb (x ||| ((1 : Int64) <<< ((Int32.toInt64 (Int32.ofNat k)) &&& 63))) j = (wb x j || decide (k = j)) := by
  have hs := List.all_eq_true.mp shc k (List.mem_range.mpr hk)
  rw [Bool.and_eq_true] at hs
  unfold wb
  rw [Int64.toBitVec_or, BitVec.getLsbD_or, of_decide_eq_true hs.2, BitVec.getLsbD_twoPow, decide_eq_true hk, Bool.true_and]
theorem tbc : (List.range 11).all (fun k => decide ((((1 : Int32) <<< ((Int32.ofNat k) &&& 31))).toBitVec = BitVec.twoPow 32 k) && decide (((Int32.ofNat k) &&& 31).toBitVec.toNat = k)) = true := by decide +kernel
theorem tb_or {x : Int32} {k j : Nat} (hk : k < 11) : tb (x ||| ((1 : Int32) <<< ((Int32.ofNat k) &&& 31))) j = (tb x j || decide (k = j)) := by
  have hs := List.all_eq_true.mp tbc k (List.mem_range.mpr hk)
  rw [Bool.and_eq_true] at hs
  unfold tb
  rw [Int32.toBitVec_or, BitVec.getLsbD_or, of_decide_eq_true hs.1, BitVec.getLsbD_twoPow, decide_eq_true (by omega : k < 32), Bool.true_and]
theorem tb5 {x : Int32} : xcmp .ne ((x >>> ((5 : Int32) &&& 31)) &&& 1) 1 = !tb x 5 := by
  have h : ((x >>> ((5 : Int32) &&& 31)) &&& 1).toBitVec = (x.toBitVec.sshiftRight 5) &&& 1#32 := by
    rw [Int32.toBitVec_and, Int32.toBitVec_shiftRight]
    rfl
  have hb : tb x 5 = (x.toBitVec.sshiftRight 5).getLsbD 0 := by
    rw [BitVec.getLsbD_sshiftRight]
    rfl
  rw [hb]
  cases hc : (x.toBitVec.sshiftRight 5).getLsbD 0 with
  | true =>
    have : (x >>> ((5 : Int32) &&& 31)) &&& 1 = 1 := Int32.toBitVec_inj.mp (by
      rw [h]
      refine BitVec.eq_of_toNat_eq ?_
      have g := nat_and1 (x.toBitVec.sshiftRight 5).toNat 0
      have g2 : (x.toBitVec.sshiftRight 5).toNat.testBit 0 = true := hc
      rw [g2, if_pos rfl, Nat.shiftRight_zero] at g
      rw [BitVec.toNat_and]
      exact g)
    rw [this]
    rfl
  | false =>
    have : (x >>> ((5 : Int32) &&& 31)) &&& 1 = 0 := Int32.toBitVec_inj.mp (by
      rw [h]
      refine BitVec.eq_of_toNat_eq ?_
      have g := nat_and1 (x.toBitVec.sshiftRight 5).toNat 0
      have g2 : (x.toBitVec.sshiftRight 5).toNat.testBit 0 = false := hc
      rw [g2, if_neg (by decide), Nat.shiftRight_zero] at g
      rw [BitVec.toNat_and]
      exact g)
    rw [this]
    rfl
theorem tb6 {x : Int32} : xcmp .ne ((x >>> ((6 : Int32) &&& 31)) &&& 1) 1 = !tb x 6 := by
  have h : ((x >>> ((6 : Int32) &&& 31)) &&& 1).toBitVec = (x.toBitVec.sshiftRight 6) &&& 1#32 := by
    rw [Int32.toBitVec_and, Int32.toBitVec_shiftRight]
    rfl
  have hb : tb x 6 = (x.toBitVec.sshiftRight 6).getLsbD 0 := by
    rw [BitVec.getLsbD_sshiftRight]
    rfl
  rw [hb]
  cases hc : (x.toBitVec.sshiftRight 6).getLsbD 0 with
  | true =>
    have : (x >>> ((6 : Int32) &&& 31)) &&& 1 = 1 := Int32.toBitVec_inj.mp (by
      rw [h]
      refine BitVec.eq_of_toNat_eq ?_
      have g := nat_and1 (x.toBitVec.sshiftRight 6).toNat 0
      have g2 : (x.toBitVec.sshiftRight 6).toNat.testBit 0 = true := hc
      rw [g2, if_pos rfl, Nat.shiftRight_zero] at g
      rw [BitVec.toNat_and]
      exact g)
    rw [this]
    rfl
  | false =>
    have : (x >>> ((6 : Int32) &&& 31)) &&& 1 = 0 := Int32.toBitVec_inj.mp (by
      rw [h]
      refine BitVec.eq_of_toNat_eq ?_
      have g := nat_and1 (x.toBitVec.sshiftRight 6).toNat 0
      have g2 : (x.toBitVec.sshiftRight 6).toNat.testBit 0 = false := hc
      rw [g2, if_neg (by decide), Nat.shiftRight_zero] at g
      rw [BitVec.toNat_and]
      exact g)
    rw [this]
    rfl
def RDc (P S B : Nat) (Ic Ir : tI) : Prop := (P ≤ 5 ∧ S ≤ 6 ∧ B ≤ 4) ∧ (Ic 38 0 = Int32.ofNat P ∧ Ic 47 0 = Int32.ofNat S ∧ Ic 36 6 = Int32.ofNat B) ∧ Ir 186 2482 = Int32.ofNat P ∧ Ir 186 2483 = Int32.ofNat S ∧ Ir 186 2484 = Int32.ofNat B
def RDn (P S B : Nat) (Jc Jr : tJ) : Prop := (∀ p, p < P → RN (Jc 39 p) (Jr 187 (60 + p))) ∧ (∀ i, i < S → RN (Jc 48 i) (Jr 187 (65 + i))) ∧ ∀ b, b < B → RN (Jc 57 b) (Jr 187 (71 + b))
def RDg (W D : Nat) (Ic Ir : tI) : Prop := (W ≤ 6 ∧ D ≤ 5) ∧ (Ic 37 0 = Int32.ofNat W ∧ Ic 37 1 = Int32.ofNat D ∧ Ir 186 2480 = Int32.ofNat W ∧ Ir 186 2481 = Int32.ofNat D) ∧ Ic 36 4 = Ir 186 2486 ∧ Ic 36 5 = Ir 186 2487
def RDt (W : Nat) (Ic Ir : tI) : Prop := tb (Ir 185 20) 5 = decide (0 < W) ∧ tb (Ir 185 20) 6 = decide (Ic 35 2 ≠ 0)
def RDw (Jc : tJ) (Ir : tI) : Prop := ∀ r c, r < 5 → c < 6 → Ir 186 (2490 + (6 * r + c)) = if wb (Jc 37 2) (10 * r + c) = true then 1 else 0
/-- one cell, told both ways -/
def RCl (x y : Int32) : Prop := ∃ r c, r < 5 ∧ c < 6 ∧ x = Int32.ofNat (10 * r + c) ∧ y = Int32.ofNat (6 * r + c)
/-- a cell of so wide and deep a scene -/
def RCw (W D : Nat) (x y : Int32) : Prop := ∃ r c, r < D ∧ c < W ∧ x = Int32.ofNat (10 * r + c) ∧ y = Int32.ofNat (6 * r + c)
theorem RCw_l {W D : Nat} {x y : Int32} (hg : W ≤ 6 ∧ D ≤ 5) (h : RCw W D x y) : RCl x y := by
  obtain ⟨r, c, h1, h2, h3⟩ := h
  exact ⟨r, c, by omega, by omega, h3⟩
def RDp (W D P : Nat) (Ic Ir : tI) : Prop := ∀ p, p < P → RCw W D (Ic 40 p) (Ir 186 (2520 + 14 * p)) ∧ (Ic 41 p = Ir 186 (2521 + 14 * p) ∧ Ic 42 p = Ir 186 (2522 + 14 * p)) ∧ (∃ m, 1 ≤ m ∧ m ≤ 8 ∧ Ic 43 p = Int32.ofNat m ∧ Ir 186 (2523 + 14 * p) = Int32.ofNat m ∧ ∀ k, k < m → Ic 44 (8 * p + k) = Ir 186 (2526 + 14 * p + k)) ∧ Ir 186 (2524 + 14 * p) = (if Ir 186 (2521 + 14 * p) = 0 then 1 else 0) ∧ Ir 186 (2525 + 14 * p) = Ir 186 (2520 + 14 * p)
def RDq (P : Nat) (Ir : tI) : Prop := ∀ p, P ≤ p → p < 5 → Ir 186 (2521 + 14 * p) = 0 ∧ Ir 186 (2523 + 14 * p) = 0
def RDs (S P : Nat) (Ic Ir : tI) : Prop := ∀ i, i < S → Ic 49 i = Ir 186 (2590 + 3 * i) ∧ ((Ic 49 i = 2 ∧ Ic 50 i = -1 ∧ Ic 51 i = -1) ∨ (Ic 49 i = 0 ∧ Ic 50 i = Ir 186 (2591 + 3 * i) ∧ (∃ a, a < P ∧ Ic 50 i = Int32.ofNat a) ∧ RCl (Ic 51 i) (Ir 186 (2592 + 3 * i))) ∨ (Ic 49 i = 1 ∧ Ic 50 i = Ir 186 (2591 + 3 * i) ∧ Ic 51 i = Ir 186 (2592 + 3 * i) ∧ (∃ a, a < P ∧ Ic 50 i = Int32.ofNat a) ∧ ∃ b, b < P ∧ Ic 51 i = Int32.ofNat b))
def RDb (B : Nat) (Ic Ir : tI) : Prop := ∀ b, b < B → Ic 58 b = Ir 186 (2608 + b)
def RDz (Ic Ir : tI) : Prop := (∀ k, k < 121 → Ic 59 k = -1) ∧ (Ic 38 1 = 0 ∧ Ic 52 0 = 0 ∧ Ic 52 1 = 0 ∧ Ic 52 2 = 0) ∧ (∀ k, k < 120 → Ir 186 (2612 + k) = -1) ∧ Ir 186 2485 = 0 ∧ Ir 186 2488 = -1
def RD (P S B W D : Nat) (Ic : tI) (Jc : tJ) (Ir : tI) (Jr : tJ) : Prop := (RDc P S B Ic Ir ∧ RDn P S B Jc Jr) ∧ (RDg W D Ic Ir ∧ RDt W Ic Ir ∧ RDw Jc Ir) ∧ (RDp W D P Ic Ir ∧ RDq P Ir) ∧ (RDs S P Ic Ir ∧ RDb B Ic Ir) ∧ RDz Ic Ir
section PD
variable {Ic Ir Ic' Ir' : tI} {Jc Jr Jc' Jr' : tJ} {P S B W D : Nat}
theorem RDc_cg (h : RDc P S B Ic Ir) (a1 : Ic' 38 0 = Ic 38 0) (a2 : Ic' 47 0 = Ic 47 0) (a3 : Ic' 36 6 = Ic 36 6) (a4 : ∀ k, 2482 ≤ k → k ≤ 2484 → Ir' 186 k = Ir 186 k) : RDc P S B Ic' Ir' := by
  unfold RDc
  rw [a1, a2, a3, a4 2482 (by omega) (by omega), a4 2483 (by omega) (by omega), a4 2484 (by omega) (by omega)]
  exact h
theorem RDn_cg (h : RDn P S B Jc Jr) (a1 : ∀ p, p < P → Jc' 39 p = Jc 39 p) (a2 : ∀ p, p < S → Jc' 48 p = Jc 48 p) (a3 : ∀ p, p < B → Jc' 57 p = Jc 57 p) (b1 : ∀ p, p < P → Jr' 187 (60 + p) = Jr 187 (60 + p)) (b2 : ∀ p, p < S → Jr' 187 (65 + p) = Jr 187 (65 + p)) (b3 : ∀ p, p < B → Jr' 187 (71 + p) = Jr 187 (71 + p)) : RDn P S B Jc' Jr' :=
  ⟨fun p hp => by rw [a1 p hp, b1 p hp]; exact h.1 p hp, fun p hp => by rw [a2 p hp, b2 p hp]; exact h.2.1 p hp, fun p hp => by rw [a3 p hp, b3 p hp]; exact h.2.2 p hp⟩
theorem RDg_cg (h : RDg W D Ic Ir) (a1 : Ic' 37 0 = Ic 37 0) (a2 : Ic' 37 1 = Ic 37 1) (a3 : Ic' 36 4 = Ic 36 4) (a4 : Ic' 36 5 = Ic 36 5) (b1 : Ir' 186 2480 = Ir 186 2480) (b2 : Ir' 186 2481 = Ir 186 2481) (b3 : Ir' 186 2486 = Ir 186 2486) (b4 : Ir' 186 2487 = Ir 186 2487) : RDg W D Ic' Ir' := by
  unfold RDg
  rw [a1, a2, a3, a4, b1, b2, b3, b4]
  exact h
theorem RDt_cg (h : RDt W Ic Ir) (a : Ic' 35 2 = Ic 35 2) (b : Ir' 185 20 = Ir 185 20) : RDt W Ic' Ir' := by
  unfold RDt
  rw [a, b]
  exact h
theorem RDw_cg (h : RDw Jc Ir) (a : Jc' 37 2 = Jc 37 2) (b : ∀ k, 2490 ≤ k → k < 2520 → Ir' 186 k = Ir 186 k) : RDw Jc' Ir' := fun r c hr hc => by
  rw [a, b _ (by omega) (by omega)]
  exact h r c hr hc
theorem RDp_cg (h : RDp W D P Ic Ir) (a : ∀ o p, 40 ≤ o → o ≤ 43 → p < P → Ic' o p = Ic o p) (a2 : ∀ k, k < 8 * P → Ic' 44 k = Ic 44 k) (b : ∀ k, 2520 ≤ k → k < 2520 + 14 * P → Ir' 186 k = Ir 186 k) : RDp W D P Ic' Ir' := fun p hp => by
  obtain ⟨h1, h2, ⟨m, m1, m8, h3, h4, h5⟩, h6⟩ := h p hp
  rw [a 40 p (by omega) (by omega) hp, a 41 p (by omega) (by omega) hp, a 42 p (by omega) (by omega) hp, a 43 p (by omega) (by omega) hp, b (2520 + 14 * p) (by omega) (by omega), b (2521 + 14 * p) (by omega) (by omega), b (2522 + 14 * p) (by omega) (by omega), b (2523 + 14 * p) (by omega) (by omega), b (2524 + 14 * p) (by omega) (by omega), b (2525 + 14 * p) (by omega) (by omega)]
  exact ⟨h1, h2, ⟨m, m1, m8, h3, h4, fun k hk => by rw [a2 _ (by omega), b _ (by omega) (by omega)]; exact h5 k hk⟩, h6⟩
theorem RDq_cg (h : RDq P Ir) (b : ∀ k, 2520 + 14 * P ≤ k → k < 2590 → Ir' 186 k = Ir 186 k) : RDq P Ir' := fun p h1 h2 => by
  rw [b _ (by omega) (by omega), b _ (by omega) (by omega)]
  exact h p h1 h2
theorem RDs_cg (h : RDs S P Ic Ir) (a : ∀ o p, 49 ≤ o → o ≤ 51 → p < S → Ic' o p = Ic o p) (b : ∀ k, 2590 ≤ k → k < 2590 + 3 * S → Ir' 186 k = Ir 186 k) : RDs S P Ic' Ir' := fun i hi => by
  rw [a 49 i (by omega) (by omega) hi, a 50 i (by omega) (by omega) hi, a 51 i (by omega) (by omega) hi, b (2590 + 3 * i) (by omega) (by omega), b (2591 + 3 * i) (by omega) (by omega), b (2592 + 3 * i) (by omega) (by omega)]
  exact h i hi
theorem RDb_cg (h : RDb B Ic Ir) (a : ∀ p, p < B → Ic' 58 p = Ic 58 p) (b : ∀ k, 2608 ≤ k → k < 2608 + B → Ir' 186 k = Ir 186 k) : RDb B Ic' Ir' := fun i hi => by
  rw [a i hi, b _ (by omega) (by omega)]
  exact h i hi
theorem RDz_cg (h : RDz Ic Ir) (a1 : ∀ k, Ic' 59 k = Ic 59 k) (a2 : Ic' 38 1 = Ic 38 1) (a3 : ∀ k, Ic' 52 k = Ic 52 k) (b1 : ∀ k, 2612 ≤ k → k < 2732 → Ir' 186 k = Ir 186 k) (b2 : Ir' 186 2485 = Ir 186 2485) (b3 : Ir' 186 2488 = Ir 186 2488) : RDz Ic' Ir' := by
  obtain ⟨h1, h2, h3, h4⟩ := h
  refine ⟨fun k hk => by rw [a1]; exact h1 k hk, ?_, fun k hk => by rw [b1 _ (by omega) (by omega)]; exact h3 k hk, ?_⟩
  · rw [a2, a3, a3, a3]; exact h2
  · rw [b2, b3]; exact h4
theorem RD_cg (h : RD P S B W D Ic Jc Ir Jr) (h1 : ∀ o k, 35 ≤ o → o ≤ 59 → ¬ (o = 35 ∧ k = 3) → Ic' o k = Ic o k) (h2 : ∀ o k, 35 ≤ o → o ≤ 59 → Jc' o k = Jc o k) (h3 : Ir' 185 20 = Ir 185 20) (h4 : ∀ k, 2480 ≤ k → k < 3092 → Ir' 186 k = Ir 186 k) (h5 : ∀ k, Jr' 187 k = Jr 187 k) : RD P S B W D Ic' Jc' Ir' Jr' := by
  obtain ⟨⟨g1, g2⟩, ⟨g3, g4, g5⟩, ⟨g6, g7⟩, ⟨g8, g9⟩, g10⟩ := h
  have c := g1.1
  exact ⟨⟨RDc_cg g1 (h1 _ _ (by omega) (by omega) (by omega)) (h1 _ _ (by omega) (by omega) (by omega)) (h1 _ _ (by omega) (by omega) (by omega)) (fun k a b => h4 k (by omega) (by omega)), RDn_cg g2 (fun p _ => h2 _ _ (by omega) (by omega)) (fun p _ => h2 _ _ (by omega) (by omega)) (fun p _ => h2 _ _ (by omega) (by omega)) (fun p _ => h5 _) (fun p _ => h5 _) (fun p _ => h5 _)⟩,
    ⟨RDg_cg g3 (h1 _ _ (by omega) (by omega) (by omega)) (h1 _ _ (by omega) (by omega) (by omega)) (h1 _ _ (by omega) (by omega) (by omega)) (h1 _ _ (by omega) (by omega) (by omega)) (h4 _ (by omega) (by omega)) (h4 _ (by omega) (by omega)) (h4 _ (by omega) (by omega)) (h4 _ (by omega) (by omega)), RDt_cg g4 (h1 _ _ (by omega) (by omega) (by omega)) h3, RDw_cg g5 (h2 _ _ (by omega) (by omega)) (fun k a b => h4 k (by omega) (by omega))⟩,
    ⟨RDp_cg g6 (fun o p a b _ => h1 _ _ (by omega) (by omega) (by omega)) (fun k _ => h1 _ _ (by omega) (by omega) (by omega)) (fun k a b => h4 k (by omega) (by omega)), RDq_cg g7 (fun k a b => h4 k (by omega) (by omega))⟩,
    ⟨RDs_cg g8 (fun o p a b _ => h1 _ _ (by omega) (by omega) (by omega)) (fun k a b => h4 k (by omega) (by omega)), RDb_cg g9 (fun p _ => h1 _ _ (by omega) (by omega) (by omega)) (fun k a b => h4 k (by omega) (by omega))⟩,
    RDz_cg g10 (fun k => h1 _ _ (by omega) (by omega) (by omega)) (h1 _ _ (by omega) (by omega) (by omega)) (fun k => h1 _ _ (by omega) (by omega) (by omega)) (fun k a b => h4 k (by omega) (by omega)) (h4 _ (by omega) (by omega)) (h4 _ (by omega) (by omega))⟩
/-! is a cell told already? -/
theorem f47_is {I : tI} {J : tJ} {k : Nat} (hk : k < 64) : f47_37 I J (Int32.ofNat k) = (if wb (J 37 2) k = true then 1 else 0, I, J) := by
  unfold f47_37
  rw [wb_is hk]
  cases wb (J 37 2) k <;> rfl
theorem f15_run {N P : Nat} {x : Int32} {I : tI} {J : tJ} (hP : P ≤ 5) (h0 : I 38 0 = Int32.ofNat P) : ∀ (k p : Nat) {Y : Nat × Int32 × Int32 × tI × tJ}, p ≤ P → (∀ i, i < p → I 40 i ≠ x) → f15_38_l2 N k I J x (Int32.ofNat p) = some Y → Y.2.2.2 = (I, J) ∧ ((Y.1 = 0 ∧ ∀ i, i < P → I 40 i ≠ x) ∨ (Y.1 = 1 ∧ ∃ i, i < P ∧ I 40 i = x))
  | 0, _, _, _, _, h => by cases h
  | k + 1, p, Y, hp, hn, h => by
    simp only [f15_38_l2] at h
    rw [h0, oi_ge (by omega) (by omega)] at h
    by_cases hpm : P ≤ p
    · rw [decide_eq_true hpm, cond_true] at h
      cases h
      exact ⟨rfl, Or.inl ⟨rfl, fun i hi => hn i (by omega)⟩⟩
    · rw [decide_eq_false hpm, cond_false, oi_nat (by omega), oi_suc (by omega)] at h
      by_cases e : I 40 p = x
      · rw [xc_nen e, cond_false] at h
        cases h
        exact ⟨rfl, Or.inr ⟨rfl, p, by omega, e⟩⟩
      · rw [xc_ne e, cond_true] at h
        refine f15_run hP h0 k (p + 1) (by omega) (fun i hi => ?_) h
        by_cases e2 : i = p
        · rw [e2]; exact e
        · exact hn i (by omega)
theorem f15_is {N P : Nat} {x : Int32} {I : tI} {J : tJ} {q : Int32 × tI × tJ} (hP : P ≤ 5) (h0 : I 38 0 = Int32.ofNat P) (h : f15_38 N I J x = some q) : (q = (0, I, J) ∧ ∀ i, i < P → I 40 i ≠ x) ∨ (q = (1, I, J) ∧ ∃ i, i < P ∧ I 40 i = x) := by
  unfold f15_38 at h
  cases hc : f15_38_l2 N N I J x 0 with
  | none => rw [hc] at h; cases h
  | some Y =>
    rw [hc] at h
    obtain ⟨a, b⟩ := f15_run hP h0 N 0 (Nat.zero_le _) (fun i hi => by omega) hc
    obtain ⟨k1, y1, y2, Ia, Ja⟩ := Y
    dsimp only at h a b
    cases a
    rcases b with ⟨rfl, b⟩ | ⟨rfl, b⟩
    · cases h
      exact Or.inl ⟨rfl, b⟩
    · cases h
      exact Or.inr ⟨rfl, b⟩
theorem f239_run {N P c : Nat} {I : tI} {J : tJ} (hP : P ≤ 5) (h0 : I 186 2482 = Int32.ofNat P) : ∀ (k p : Nat) (b : Bool) {Y : Int32 × Int32 × Int32 × tI × tJ}, p ≤ P → f239_185_l22 N k I J (Int32.ofNat c) (bi b) (Int32.ofNat p) = some Y → Y.2.2.2 = (I, J) ∧ ((Y.2.1 = 0 ∧ b = false ∧ ∀ i, p ≤ i → i < P → I 186 (2520 + 14 * i) ≠ Int32.ofNat c) ∨ (Y.2.1 = 1 ∧ (b = true ∨ ∃ i, p ≤ i ∧ i < P ∧ I 186 (2520 + 14 * i) = Int32.ofNat c)))
  | 0, _, _, _, _, h => by cases h
  | k + 1, p, b, Y, hp, h => by
    simp only [f239_185_l22] at h
    rw [h0, oi_ge (by omega) (by omega)] at h
    by_cases hpm : P ≤ p
    · rw [decide_eq_true hpm, cond_true] at h
      cases h
      cases b with
      | true => exact ⟨rfl, Or.inr ⟨rfl, Or.inl rfl⟩⟩
      | false => exact ⟨rfl, Or.inl ⟨rfl, rfl, fun i a1 a2 => by omega⟩⟩
    · have ex : ((2520 : Int32) + (14 * Int32.ofNat p)).toNatClampNeg = 2520 + 14 * p := by
        rw [show (14 : Int32) * Int32.ofNat p = Int32.ofNat (14 * p) from oi_mul]
        exact ox (a := 2520) (by omega)
      rw [decide_eq_false hpm, cond_false, ex, oi_suc (by omega)] at h
      cases b with
      | true =>
        rw [show xcmp .ne (bi true) 0 = true from rfl, cond_true] at h
        obtain ⟨a, g⟩ := f239_run hP h0 k (p + 1) true (by omega) h
        refine ⟨a, ?_⟩
        rcases g with ⟨-, g, -⟩ | ⟨g, -⟩
        · cases g
        · exact Or.inr ⟨g, Or.inl rfl⟩
      | false =>
        rw [show xcmp .ne (bi false) 0 = false from rfl, cond_false] at h
        by_cases e : I 186 (2520 + 14 * p) = Int32.ofNat c
        · rw [xc_nen e, cond_false] at h
          obtain ⟨a, g⟩ := f239_run hP h0 k (p + 1) true (by omega) h
          refine ⟨a, ?_⟩
          rcases g with ⟨-, g, -⟩ | ⟨g, -⟩
          · cases g
          · exact Or.inr ⟨g, Or.inr ⟨p, Nat.le_refl _, by omega, e⟩⟩
        · rw [xc_ne e, cond_true] at h
          obtain ⟨a, g⟩ := f239_run hP h0 k (p + 1) false (by omega) h
          refine ⟨a, ?_⟩
          rcases g with ⟨g, -, g2⟩ | ⟨g, g2⟩
          · refine Or.inl ⟨g, rfl, fun i a1 a2 => ?_⟩
            by_cases e2 : i = p
            · rw [e2]; exact e
            · exact g2 i (by omega) a2
          · rcases g2 with g2 | ⟨i, a1, a2, a3⟩
            · cases g2
            · exact Or.inr ⟨g, Or.inr ⟨i, by omega, a2, a3⟩⟩
theorem f239_is {N P c : Nat} {I : tI} {J : tJ} {q : Int32 × tI × tJ} (hP : P ≤ 5) (hc : c < 30) (h0 : I 186 2482 = Int32.ofNat P) (h : f239_185 N I J (Int32.ofNat c) = some q) : (q = (0, I, J) ∧ I 186 (2490 + c) ≠ 1 ∧ ∀ i, i < P → I 186 (2520 + 14 * i) ≠ Int32.ofNat c) ∨ (q = (1, I, J) ∧ (I 186 (2490 + c) = 1 ∨ ∃ i, i < P ∧ I 186 (2520 + 14 * i) = Int32.ofNat c)) := by
  have run : ∀ (b : Bool), f239_185_j19 N I J (Int32.ofNat c) (bi b) = some q → (q = (0, I, J) ∧ b = false ∧ ∀ i, i < P → I 186 (2520 + 14 * i) ≠ Int32.ofNat c) ∨ (q = (1, I, J) ∧ (b = true ∨ ∃ i, i < P ∧ I 186 (2520 + 14 * i) = Int32.ofNat c)) := fun b hq => by
    unfold f239_185_j19 at hq
    cases hc : f239_185_l22 N N I J (Int32.ofNat c) (bi b) 0 with
    | none => rw [hc] at hq; cases hq
    | some Y =>
      rw [hc] at hq
      obtain ⟨a, g⟩ := f239_run hP h0 N 0 b (Nat.zero_le _) hc
      obtain ⟨y1, y2, y3, Ia, Ja⟩ := Y
      dsimp only at hq a g
      cases a
      rcases g with ⟨rfl, g1, g2⟩ | ⟨rfl, g⟩
      · cases hq
        exact Or.inl ⟨rfl, g1, fun i hi => g2 i (Nat.zero_le _) hi⟩
      · cases hq
        refine Or.inr ⟨rfl, ?_⟩
        rcases g with g | ⟨i, -, a2, a3⟩
        · exact Or.inl g
        · exact Or.inr ⟨i, a2, a3⟩
  unfold f239_185 at h
  rw [show ((2490 : Int32) + Int32.ofNat c).toNatClampNeg = 2490 + c from ox (a := 2490) (by omega)] at h
  by_cases e : I 186 (2490 + c) = 1
  · rw [xc_nen e, cond_false] at h
    rcases run true h with ⟨-, g, -⟩ | ⟨g, -⟩
    · cases g
    · exact Or.inr ⟨g, Or.inl e⟩
  · rw [xc_ne e, cond_true] at h
    rcases run false h with ⟨g, -, g2⟩ | ⟨g, g2⟩
    · exact Or.inl ⟨g, e, g2⟩
    · rcases g2 with g2 | g2
      · cases g2
      · exact Or.inr ⟨g, Or.inr g2⟩
theorem RCl_iff {x y : Int32} {r c : Nat} (h : RCl x y) (hr : r < 5) (hc : c < 6) : x = Int32.ofNat (10 * r + c) ↔ y = Int32.ofNat (6 * r + c) := by
  obtain ⟨r', c', hr', hc', rfl, rfl⟩ := h
  refine ⟨fun q => ?_, fun q => ?_⟩
  · have := oi_inj (by omega) (by omega) q
    rw [show 6 * r' + c' = 6 * r + c by omega]
  · have := oi_inj (by omega) (by omega) q
    rw [show 10 * r' + c' = 10 * r + c by omega]
end PD
