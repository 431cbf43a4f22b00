/-! MORE STEPS OF THE CHECK, 3: products, rests, masks, rows of bytes and longs -/
theorem ti_cst {ρ : List Int} {E : kE} {c p : Int} (h : kin ρ E) (hz : kz E = true) {t : Nat} (hp : knum ρ (t, 0, c) p) : p = c := by
  obtain ⟨z, h1, h2⟩ := hp
  obtain ⟨z', h3, h4⟩ := kz_ok h hz 0 0
  dsimp only at h1 h2 h3 h4
  rw [h3] at h1
  cases h1
  omega
/-- c times x, x between a and a + n: each by itself -/
def kmf (E : kE) (x : kV) (c : Int) (pc : Nat) (L : kL) (S : List kV) (O : kO) : Int → Nat → Option (List (Nat × kS))
  | a, 0 => bif decide (-2147483648 ≤ c * a) && decide (c * a ≤ 2147483647) then some (kopt (kref E x a a) pc L ((0, 0, c * a) :: S) O) else none
  | a, n + 1 => bif decide (-2147483648 ≤ c * a) && decide (c * a ≤ 2147483647) then (match kmf E x c pc L S O (a + 1) n with
    | some l => some (kopt (kref E x a a) pc L ((0, 0, c * a) :: S) O ++ l)
    | none => none) else none
theorem kmf_ok {E : kE} {x : kV} {c : Int} {pc : Nat} {L : kL} {S : List kV} {O : kO} : ∀ (n : Nat) (a : Int) {outs : List (Nat × kS)}, kmf E x c pc L S O a n = some outs → ∀ p, a ≤ p → p ≤ a + n → (-2147483648 ≤ c * p ∧ c * p ≤ 2147483647) ∧ ∀ E', kref E x p p = some E' → (pc, (E', L, (0, 0, c * p) :: S, O)) ∈ outs
  | 0, a, outs, h, p, h1, h2 => by
    have e : p = a := by omega
    subst e
    simp only [kmf] at h
    cases hb : (decide (-2147483648 ≤ c * p) && decide (c * p ≤ 2147483647)) with
    | false => rw [hb] at h; cases h
    | true =>
      rw [hb] at h
      cases h
      simp only [Bool.and_eq_true, decide_eq_true_eq] at hb
      exact ⟨hb, fun E' he => kopt_in he⟩
  | n + 1, a, outs, h, p, h1, h2 => by
    simp only [kmf] at h
    cases hb : (decide (-2147483648 ≤ c * a) && decide (c * a ≤ 2147483647)) with
    | false => rw [hb] at h; cases h
    | true =>
      rw [hb] at h
      simp only [cond_true] at h
      split at h
      · rename_i l hl
        cases h
        by_cases e : p = a
        · subst e
          simp only [Bool.and_eq_true, decide_eq_true_eq] at hb
          exact ⟨hb, fun E' he => List.mem_append_left _ (kopt_in he)⟩
        · obtain ⟨g1, g2⟩ := kmf_ok n (a + 1) hl p (by omega) (by omega)
          exact ⟨g1, fun E' he => List.mem_append_right _ (g2 E' he)⟩
      · cases h
def kmul (pc : Nat) (s : kS) : kX := match s.2.2.1 with
  | y :: x :: S => bif (Nat.beq x.1 0 && Nat.beq y.1 0) && kz s.1 then
      (bif Nat.beq x.2.1 0 then (match kiv s.1 y with
        | some b => bif decide (b.2 - b.1 ≤ 64) then kmf s.1 y x.2.2 (pc + 1) s.2.1 S s.2.2.2 b.1 (b.2 - b.1).toNat else none
        | none => none) else bif Nat.beq y.2.1 0 then (match kiv s.1 x with
        | some b => bif decide (b.2 - b.1 ≤ 64) then kmf s.1 x y.2.2 (pc + 1) s.2.1 S s.2.2.2 b.1 (b.2 - b.1).toNat else none
        | none => none) else none) else none
  | _ => none
def kand (pc : Nat) (s : kS) : kX := match s.2.2.1 with
  | y :: x :: S => bif (Nat.beq x.1 0 && Nat.beq y.1 0) && kz s.1 then
      (bif Nat.beq y.2.1 0 && decide (0 ≤ y.2.2) then some [(pc + 1, (s.1 ++ [(0, y.2.2)], s.2.1, (0, s.1.length, 0) :: S, s.2.2.2))] else none) else none
  | _ => none
def klen (T : kT) (pc : Nat) (s : kS) : kX := match s.2.2.1 with
  | v :: S => bif Nat.beq v.1 2 && kz s.1 then (match T.k v.2.1 with
    | some cm => bif (Nat.beq cm.1 20 || Nat.beq cm.1 22) && Nat.blt cm.2 100000 then some [(pc + 1, (s.1, s.2.1, (0, 0, (cm.2 : Int)) :: S, s.2.2.2))] else none
    | none => none) else none
  | _ => none
theorem nI_toInt' {n : Nat} (h : n < 2 ^ 31) : (Int32.ofNat n).toInt = (n : Int) := nI_toInt h
section KS4
variable {T : kT} {C : kQ} {sc : List Int32} {r : xR} {ρ0 : List Int} {pc : Nat} {s : kS} {Q : Option Value → xM → Prop} {outs : List (Nat × kS)}
theorem kmul_ok {e : xE} (he : xat r.1 pc = some e) (hk : xkind e = 0) (hx : ∀ L st M, x1 xty xdf sc e pc L st M = xii (fun x y => x * y) pc L st M) (h : kmul pc s = some outs) (hg : ∀ q ∈ outs, kG T C sc r ρ0 q.1 q.2 Q) : kG T C sc r ρ0 pc s Q := by
  obtain ⟨E, L, S, O⟩ := s
  unfold kmul at h
  dsimp only at h
  split at h
  · rename_i y x S'
    cases hb : ((Nat.beq x.1 0 && Nat.beq y.1 0) && kz E) with
    | false => rw [hb] at h; cases h
    | true =>
      rw [hb] at h
      simp only [cond_true] at h
      simp only [Bool.and_eq_true] at hb
      intro σ L' st B I J ⟨h1, h2, h3, h4⟩ hB hI
      obtain ⟨w1, st1, rfl, g1, w2, st2, rfl, g2, h3⟩ := h3
      obtain ⟨t1, i1, c1⟩ := x
      obtain ⟨t2, i2, c2⟩ := y
      have e1 := Nat.eq_of_beq_eq_true hb.1.1
      have e2 := Nat.eq_of_beq_eq_true hb.1.2
      dsimp only at e1 e2 h
      subst e1 e2
      obtain ⟨q, rfl, hq⟩ := id g1
      obtain ⟨p, rfl, hp⟩ := id g2
      refine sw_0 he hk (by rw [hx]; rfl) ?_
      have fin : ∀ (z : kV) (c k : Int) (b : Int × Int), knum (ρ0 ++ σ) z k → kiv E z = some b → decide (b.2 - b.1 ≤ 64) = true → kmf E z c (pc + 1) L S' O b.1 (b.2 - b.1).toNat = some outs → p.toInt * q.toInt = c * k → sw sc r (pc + 1) L' (.int (p * q) :: st2) (tMem B I J) Q := fun z c k b hz hbz _ hm hpq => by
        have hbk := kiv_in h1 hz hbz
        obtain ⟨m1, m2⟩ := kmf_ok _ _ hm k hbk.1 (by omega)
        obtain ⟨E', k1, k2⟩ := kref_ok h1 hz (Int.le_refl k) (Int.le_refl k)
        refine hg _ (m2 E' k1) σ L' (.int (p * q) :: st2) B I J ⟨k2, h2, ⟨_, _, rfl, ⟨p * q, rfl, ?_⟩, h3⟩, h4⟩ hB hI
        have : (p * q).toInt = c * k := by rw [ti_mul (by omega) (by omega), hpq]
        rw [this]
        exact kz_ok h1 hb.2 (c * k) 0
      cases hc : Nat.beq i1 0 with
      | true =>
        rw [hc] at h
        simp only [cond_true] at h
        have e0 := Nat.eq_of_beq_eq_true hc
        subst e0
        have hpc := ti_cst h1 hb.2 hp
        split at h
        · rename_i b hbv
          cases hd : decide (b.2 - b.1 ≤ 64) with
          | false => rw [hd] at h; cases h
          | true => rw [hd] at h; exact fin _ c1 q.toInt b hq hbv hd h (by rw [hpc])
        · cases h
      | false =>
        rw [hc] at h
        simp only [cond_false] at h
        cases hc2 : Nat.beq i2 0 with
        | false => rw [hc2] at h; cases h
        | true =>
          rw [hc2] at h
          simp only [cond_true] at h
          have e0 := Nat.eq_of_beq_eq_true hc2
          subst e0
          have hqc := ti_cst h1 hb.2 hq
          split at h
          · rename_i b hbv
            cases hd : decide (b.2 - b.1 ≤ 64) with
            | false => rw [hd] at h; cases h
            | true => rw [hd] at h; exact fin _ c2 p.toInt b hp hbv hd h (by rw [hqc, Int.mul_comm])
          · cases h
  · cases h
theorem ti_and {x y : Int32} (h : 0 ≤ y.toInt) : 0 ≤ (x &&& y).toInt ∧ (x &&& y).toInt ≤ y.toInt := by
  have hy : y.toInt = (y.toBitVec.toNat : Int) := by
    have := Int32.toInt_toBitVec y
    rw [← this] at h ⊢
    rw [BitVec.toInt_eq_toNat_cond] at h ⊢
    split at h
    · rename_i hc; rw [if_pos hc]
    · have := y.toBitVec.isLt; omega
  have hle : (x &&& y).toBitVec.toNat ≤ y.toBitVec.toNat := by
    rw [Int32.toBitVec_and, BitVec.toNat_and]
    exact Nat.and_le_right
  have hb : y.toBitVec.toNat < 2147483648 := by have := ti_bd y; omega
  have hx : (x &&& y).toInt = ((x &&& y).toBitVec.toNat : Int) := by
    have := Int32.toInt_toBitVec (x &&& y)
    rw [← this, BitVec.toInt_eq_toNat_cond, if_pos (by omega)]
  omega
theorem kand_ok {e : xE} (he : xat r.1 pc = some e) (hk : xkind e = 0) (hx : ∀ L st M, x1 xty xdf sc e pc L st M = xii (fun x y => x &&& y) pc L st M) (h : kand pc s = some outs) (hg : ∀ q ∈ outs, kG T C sc r ρ0 q.1 q.2 Q) : kG T C sc r ρ0 pc s Q := by
  obtain ⟨E, L, S, O⟩ := s
  unfold kand at h
  dsimp only at h
  split at h
  · rename_i y x S'
    cases hb : ((Nat.beq x.1 0 && Nat.beq y.1 0) && kz E) with
    | false => rw [hb] at h; cases h
    | true =>
      rw [hb] at h
      simp only [cond_true] at h
      simp only [Bool.and_eq_true] at hb
      cases hc : (Nat.beq y.2.1 0 && decide (0 ≤ y.2.2)) with
      | false => rw [hc] at h; cases h
      | true =>
        rw [hc] at h
        cases h
        simp only [Bool.and_eq_true, decide_eq_true_eq] at hc
        refine kk_ii (v := (0, E.length, 0)) (E' := E ++ [(0, y.2.2)]) he hk hx (Nat.eq_of_beq_eq_true hb.1.1) (Nat.eq_of_beq_eq_true hb.1.2) (fun ρ p q h1 hp hq => ?_) rfl (hg _ List.mem_cons_self)
        obtain ⟨t2, i2, c2⟩ := y
        have e0 := Nat.eq_of_beq_eq_true hc.1
        dsimp only at e0
        subst e0
        have hqc := ti_cst h1 hb.2 hq
        have b := ti_and (x := p) (y := q) (by rw [hqc]; exact hc.2)
        exact ⟨[(p &&& q).toInt], kin_app h1 b.1 (by dsimp only; omega), (p &&& q).toInt, kin_new h1, by simp⟩
  · cases h
theorem klen_ok {e : xE} (he : xat r.1 pc = some e) (hk : xkind e = 0) (hx : ∀ L st M, x1 xty xdf sc e pc L st M = xlen sc pc L st M) (h : klen T pc s = some outs) (hg : ∀ q ∈ outs, kG T C sc r ρ0 q.1 q.2 Q) : kG T C sc r ρ0 pc s Q := by
  obtain ⟨E, L, S, O⟩ := s
  unfold klen at h
  dsimp only at h
  split at h
  · rename_i v S'
    cases hb : (Nat.beq v.1 2 && kz E) with
    | false => rw [hb] at h; cases h
    | true =>
      rw [hb] at h
      simp only [cond_true] at h
      rw [Bool.and_eq_true] at hb
      split at h
      · rename_i cm hcm
        cases hc : ((Nat.beq cm.1 20 || Nat.beq cm.1 22) && Nat.blt cm.2 100000) with
        | false => rw [hc] at h; cases h
        | true =>
          rw [hc] at h
          cases h
          rw [Bool.and_eq_true] at hc
          have hlt := Nat.blt_eq.mp hc.2
          intro σ L' st B I J ⟨h1, h2, h3, h4⟩ hB hI
          obtain ⟨w, st', rfl, g1, h3⟩ := h3
          obtain ⟨t, o, d⟩ := v
          have e0 := Nat.eq_of_beq_eq_true hb.1
          dsimp only at e0 hcm
          subst e0
          have e1 : w = .ref o := g1
          subst e1
          obtain ⟨sl, k1, k2, -⟩ := hB o cm hcm
          have k3 : xnth (tMem B I J) o = some (cm.1, tS I J o 0 sl) := xarr_nth (tarr k1)
          have k4 : (tS I J o 0 sl).length = cm.2 := by rw [tS_len]; exact k2
          refine sw_0 he hk (?_ : _ = some (pc + 1, L', .int (Int32.ofNat cm.2) :: st', tMem B I J)) (hg _ List.mem_cons_self σ L' _ B I J ⟨h1, h2, ⟨_, _, rfl, ⟨Int32.ofNat cm.2, rfl, ?_⟩, h3⟩, h4⟩ hB hI)
          · rw [hx]
            show (match xnth (tMem B I J) o with
              | some o => bif Nat.beq o.1 20 || Nat.beq o.1 22 then some (pc + 1, L', Value.int (Int32.ofNat o.2.length) :: st', tMem B I J) else none
              | none => none) = _
            rw [k3]
            dsimp only
            rw [hc.1, k4]
            rfl
          · rw [nI_toInt' (by omega)]
            exact kz_ok h1 hb.2 (cm.2 : Int) 0
      · cases h
  · cases h
end KS4
/-! rests and quotients by a constant above 0 -/
theorem ti_div {x y : Int32} (h : 0 < y.toInt) : (x / y).toInt = x.toInt.tdiv y.toInt := by
  rw [Int32.toInt_div]
  have hx := ti_bd x
  have h1 : (x.toInt.tdiv y.toInt).natAbs ≤ x.toInt.natAbs := Int.natAbs_tdiv_le_natAbs _ _
  by_cases hm : x.toInt = -2147483648 ∧ y.toInt = 1
  · rw [hm.1, hm.2]
    rfl
  · apply Int.bmod_eq_of_le
    · omega
    · have : x.toInt.tdiv y.toInt ≤ 2147483647 := by
        by_cases hn : 0 ≤ x.toInt
        · omega
        · have h5 := Int.tdiv_nonneg (show 0 ≤ -x.toInt by omega) (show 0 ≤ y.toInt by omega)
          rw [Int.neg_tdiv] at h5
          omega
      omega
theorem ti_rem {x y : Int32} (h : 0 < y.toInt) : (x - x / y * y).toInt = x.toInt.tmod y.toInt := by
  have hx := ti_bd x
  have h1 := ti_div (x := x) h
  have h2 : x.toInt.tdiv y.toInt * y.toInt = x.toInt - x.toInt.tmod y.toInt := by
    have := Int.tdiv_mul_add_tmod x.toInt y.toInt
    omega
  have h3 : (x.toInt.tmod y.toInt).natAbs ≤ x.toInt.natAbs := by
    rw [Int.natAbs_tmod]
    exact Nat.mod_le _ _
  have hsgn : (0 ≤ x.toInt → 0 ≤ x.toInt.tmod y.toInt) ∧ (x.toInt ≤ 0 → x.toInt.tmod y.toInt ≤ 0) := ⟨fun q => Int.tmod_nonneg _ q, fun q => by
    have h5 := Int.tmod_nonneg y.toInt (show 0 ≤ -x.toInt by omega)
    rw [Int.neg_tmod] at h5
    omega⟩
  have h4 : (x / y * y).toInt = x.toInt - x.toInt.tmod y.toInt := by
    rw [ti_mul (by rw [h1, h2]; omega) (by rw [h1, h2]; omega), h1, h2]
  rw [ti_sub (by omega) (by omega), h4]
  omega
def krem (pc : Nat) (s : kS) : kX := match s.2.2.1 with
  | y :: x :: S => bif Nat.beq x.1 0 && Nat.beq y.1 0 then (match kiv s.1 x with
    | some bx => (match kiv s.1 y with
      | some b2 => bif decide (0 < b2.1) then some [(pc + 1, (s.1 ++ [(bif decide (0 ≤ bx.1) then ((0 : Int), min bx.2 (b2.2 - 1)) else (1 - b2.2, b2.2 - 1))], s.2.1, (0, s.1.length, 0) :: S, s.2.2.2))] else none
      | none => none)
    | none => none) else none
  | _ => none
def kdiv (pc : Nat) (s : kS) : kX := match s.2.2.1 with
  | y :: x :: S => bif Nat.beq x.1 0 && Nat.beq y.1 0 then (match kiv s.1 x with
    | some bx => (match kiv s.1 y with
      | some b2 => bif decide (0 < b2.1) then some [(pc + 1, (s.1 ++ [(bif decide (0 ≤ bx.1) && decide (b2.1 = b2.2) then (bx.1 / b2.1, bx.2 / b2.1) else (min bx.1 (-bx.2), max bx.2 (-bx.1)))], s.2.1, (0, s.1.length, 0) :: S, s.2.2.2))] else none
      | none => none)
    | none => none) else none
  | _ => none
section KS5
variable {T : kT} {C : kQ} {sc : List Int32} {r : xR} {ρ0 : List Int} {pc : Nat} {s : kS} {Q : Option Value → xM → Prop} {outs : List (Nat × kS)}
theorem kfr {e : xE} {E : kE} {L : kL} {S : List kV} {O : kO} {L' : xL} {st st0 : List Value} {B : xM} {I : tI} {J : tJ} {σ : List Int} {b : Int × Int} (z : Int32) (he : xat r.1 pc = some e) (hk : xkind e = 0) (hx : x1 xty xdf sc e pc L' st0 (tMem B I J) = some (pc + 1, L', .int z :: st, tMem B I J)) (hb : b.1 ≤ z.toInt ∧ z.toInt ≤ b.2) (h1 : kin (ρ0 ++ σ) E) (h2 : kvl (ρ0 ++ σ) L L') (h3 : kvs (ρ0 ++ σ) S st) (h4 : kov (ρ0 ++ σ) I O) (hB : kB T B) (hI : kI T C B I J) (hg : kG T C sc r ρ0 (pc + 1) (E ++ [b], L, (0, E.length, 0) :: S, O) Q) : sw sc r pc L' st0 (tMem B I J) Q := by
  refine sw_0 he hk hx (hg (σ ++ [z.toInt]) L' (.int z :: st) B I J ⟨?_, ?_, ?_, ?_⟩ hB hI)
  · rw [← List.append_assoc]; exact kin_app h1 hb.1 hb.2
  · rw [← List.append_assoc]; exact kvl_ap h2
  · rw [← List.append_assoc]; exact ⟨_, _, rfl, ⟨_, rfl, z.toInt, kin_new h1, by simp⟩, kvs_ap h3⟩
  · rw [← List.append_assoc]; exact kov_ap h4
theorem ti_ne {y : Int32} (h : 0 < y.toInt) : decide (y = 0) = false := decide_eq_false (fun e => by rw [e] at h; exact absurd h (by decide))
theorem krem_ok {e : xE} (he : xat r.1 pc = some e) (hk : xkind e = 0) (hx : ∀ L (x y : Int32) st M, x1 xty xdf sc e pc L (.int y :: .int x :: st) M = (bif decide (y = 0) then none else some (pc + 1, L, .int (x - x / y * y) :: st, M))) (h : krem pc s = some outs) (hg : ∀ q ∈ outs, kG T C sc r ρ0 q.1 q.2 Q) : kG T C sc r ρ0 pc s Q := by
  obtain ⟨E, L, S, O⟩ := s
  unfold krem at h
  dsimp only at h
  split at h
  · rename_i y x S'
    cases hb : (Nat.beq x.1 0 && Nat.beq y.1 0) with
    | false => rw [hb] at h; cases h
    | true =>
      rw [hb] at h
      simp only [cond_true] at h
      rw [Bool.and_eq_true] at hb
      split at h
      · rename_i bx hbx
        split at h
        · rename_i b2 hb2
          cases hc : decide (0 < b2.1) with
          | false => rw [hc] at h; cases h
          | true =>
            rw [hc] at h
            cases h
            have hpos := of_decide_eq_true hc
            intro σ L' st B I J ⟨h1, h2, h3, h4⟩ hB hI
            obtain ⟨w1, st1, rfl, g1, w2, st2, rfl, g2, h3⟩ := h3
            obtain ⟨t1, i1, c1⟩ := x
            obtain ⟨t2, i2, c2⟩ := y
            have e1 := Nat.eq_of_beq_eq_true hb.1
            have e2 := Nat.eq_of_beq_eq_true hb.2
            dsimp only at e1 e2
            subst e1 e2
            obtain ⟨q, rfl, hq⟩ := id g1
            obtain ⟨p, rfl, hp⟩ := id g2
            have hqb := kiv_in h1 hq hb2
            have hpb := kiv_in h1 hp hbx
            have hq0 : 0 < q.toInt := by omega
            refine kfr (p - p / q * q) he hk (by rw [hx, ti_ne hq0]; rfl) ?_ h1 h2 h3 h4 hB hI (hg _ List.mem_cons_self)
            rw [ti_rem hq0]
            have m1 : (p.toInt.tmod q.toInt).natAbs < q.toInt.natAbs := by
              rw [Int.natAbs_tmod]
              exact Nat.mod_lt _ (by omega)
            have m2 : (p.toInt.tmod q.toInt).natAbs ≤ p.toInt.natAbs := by
              rw [Int.natAbs_tmod]
              exact Nat.mod_le _ _
            cases hd : decide (0 ≤ bx.1) with
            | true =>
              have hn := of_decide_eq_true hd
              have m3 := Int.tmod_nonneg q.toInt (show 0 ≤ p.toInt by omega)
              simp only [cond_true]
              omega
            | false =>
              simp only [cond_false]
              omega
        · cases h
      · cases h
  · cases h
theorem kdiv_ok {e : xE} (he : xat r.1 pc = some e) (hk : xkind e = 0) (hx : ∀ L (x y : Int32) st M, x1 xty xdf sc e pc L (.int y :: .int x :: st) M = (bif decide (y = 0) then none else some (pc + 1, L, .int (x / y) :: st, M))) (h : kdiv pc s = some outs) (hg : ∀ q ∈ outs, kG T C sc r ρ0 q.1 q.2 Q) : kG T C sc r ρ0 pc s Q := by
  obtain ⟨E, L, S, O⟩ := s
  unfold kdiv at h
  dsimp only at h
  split at h
  · rename_i y x S'
    cases hb : (Nat.beq x.1 0 && Nat.beq y.1 0) with
    | false => rw [hb] at h; cases h
    | true =>
      rw [hb] at h
      simp only [cond_true] at h
      rw [Bool.and_eq_true] at hb
      split at h
      · rename_i bx hbx
        split at h
        · rename_i b2 hb2
          cases hc : decide (0 < b2.1) with
          | false => rw [hc] at h; cases h
          | true =>
            rw [hc] at h
            cases h
            have hpos := of_decide_eq_true hc
            intro σ L' st B I J ⟨h1, h2, h3, h4⟩ hB hI
            obtain ⟨w1, st1, rfl, g1, w2, st2, rfl, g2, h3⟩ := h3
            obtain ⟨t1, i1, c1⟩ := x
            obtain ⟨t2, i2, c2⟩ := y
            have e1 := Nat.eq_of_beq_eq_true hb.1
            have e2 := Nat.eq_of_beq_eq_true hb.2
            dsimp only at e1 e2
            subst e1 e2
            obtain ⟨q, rfl, hq⟩ := id g1
            obtain ⟨p, rfl, hp⟩ := id g2
            have hqb := kiv_in h1 hq hb2
            have hpb := kiv_in h1 hp hbx
            have hq0 : 0 < q.toInt := by omega
            refine kfr (p / q) he hk (by rw [hx, ti_ne hq0]; rfl) ?_ h1 h2 h3 h4 hB hI (hg _ List.mem_cons_self)
            rw [ti_div hq0]
            cases hd : (decide (0 ≤ bx.1) && decide (b2.1 = b2.2)) with
            | true =>
              simp only [Bool.and_eq_true, decide_eq_true_eq] at hd
              have eq0 : q.toInt = b2.1 := by omega
              simp only [cond_true]
              rw [Int.tdiv_eq_ediv_of_nonneg (show 0 ≤ p.toInt by omega), eq0]
              exact ⟨Int.ediv_le_ediv hpos hpb.1, Int.ediv_le_ediv hpos hpb.2⟩
            | false =>
              have m1 : (p.toInt.tdiv q.toInt).natAbs ≤ p.toInt.natAbs := Int.natAbs_tdiv_le_natAbs _ _
              simp only [cond_false]
              omega
        · cases h
      · cases h
  · cases h
def kstep3 (T : kT) (e : xE) (pc : Nat) (s : kS) : kX := match e.1 with
  | .imul => kmul pc s
  | .iand => kand pc s
  | .irem => krem pc s
  | .idiv => kdiv pc s
  | .arraylength => klen T pc s
  | _ => none
theorem kstep3_ok {e : xE} (he : xat r.1 pc = some e) (hk : xkind e = 0) (h : kstep3 T e pc s = some outs) (hg : ∀ q ∈ outs, kG T C sc r ρ0 q.1 q.2 Q) : kG T C sc r ρ0 pc s Q := by
  obtain ⟨ins, ea, eb, ez⟩ := e
  cases ins
  case imul => exact kmul_ok he hk (fun _ _ _ => rfl) h hg
  case iand => exact kand_ok he hk (fun _ _ _ => rfl) h hg
  case irem => exact krem_ok he hk (fun _ _ _ _ _ => rfl) h hg
  case idiv => exact kdiv_ok he hk (fun _ _ _ _ _ => rfl) h hg
  case arraylength => exact klen_ok he hk (fun _ _ _ => rfl) h hg
  all_goals cases h
end KS5
