/-! WORLDS ALIKE IN A FEW PLACES: FI of the class's objects, GI of the reference's slot -/
def bas : List Nat := [10, 113, 137, 161]
def FPI (V : Nat → Nat → Nat → tI → tJ → tI → tJ → Prop) (FI : List (Nat × Nat)) (GI : List Nat) : Prop := ∀ (b sl u : Nat) (Ic Ir Ic' Ir' : tI) (Jc Jr Jc' Jr' : tJ), V b sl u Ic Jc Ir Jr → (∀ q, q ∈ FI → Ic' (b + q.1) q.2 = Ic (b + q.1) q.2) → (∀ k, k ∈ GI → Ir' 186 (sl + k) = Ir 186 (sl + k)) → V b sl u Ic' Jc' Ir' Jr'
def fcC (FI : List (Nat × Nat)) (bs : List Nat) (ml : nMl) : Bool := bs.all (fun b => FI.all (fun q => !nmod ml (b + q.1) q.2)) && !nmod ml 0 12
def fcR (GI : List Nat) (ss : List Nat) (ml : nMl) : Bool := ss.all (fun s => GI.all (fun k => !nmod ml 186 (620 * s + k))) && !nmod ml 185 36
def slIb (o k : Nat) : Bool := match ktK o with
  | some (_, m) => decide (k < m) && decide ((ktB o k).1 = 0)
  | none => false
theorem slIb_ok {o k : Nat} (h : slIb o k = true) : slI o k := by
  unfold slIb at h
  split at h
  · rename_i c m hk
    simp only [Bool.and_eq_true, decide_eq_true_eq] at h
    exact ⟨c, m, hk, h.1, h.2⟩
  · cases h
def slB (FI : List (Nat × Nat)) (GI : List Nat) : Bool := (bas.all (fun b => FI.all (fun q => slIb (b + q.1) q.2)) && [0, 1, 2, 3].all (fun s => GI.all (fun k => slIb 186 (620 * s + k)))) && (slIb 0 12 && slIb 185 36)
section RVL
variable {V : Nat → Nat → Nat → tI → tJ → tI → tJ → Prop} {FI : List (Nat × Nat)} {GI : List Nat} {ml ml' : nMl} {B B' B1 : xM} {I I' I1 I2 K1 K2 Ic Ir Ic' Ir' : tI} {J J' J1 J2 L1 L2 Jc Jr Jc' Jr' : tJ} {bs ss : List Nat}
theorem fcC_at (h : fcC FI bs ml = true) : (∀ b, b ∈ bs → ∀ q, q ∈ FI → nmod ml (b + q.1) q.2 = false) ∧ nmod ml 0 12 = false := by
  unfold fcC at h
  simp only [Bool.and_eq_true, List.all_eq_true, Bool.not_eq_true'] at h
  exact ⟨fun b hb q hq => h.1 b hb q hq, h.2⟩
theorem fcR_at (h : fcR GI ss ml = true) : (∀ s, s ∈ ss → ∀ k, k ∈ GI → nmod ml 186 (620 * s + k) = false) ∧ nmod ml 185 36 = false := by
  unfold fcR at h
  simp only [Bool.and_eq_true, List.all_eq_true, Bool.not_eq_true'] at h
  exact ⟨fun b hb q hq => h.1 b hb q hq, h.2⟩
theorem bas_j {j : Nat} (h : j < 3) : 113 + 24 * j ∈ [113, 137, 161] := by
  rcases (by omega : j = 0 ∨ j = 1 ∨ j = 2) with rfl | rfl | rfl <;> simp
/-- the marks alone -/
def MV (V : Nat → Nat → Nat → tI → tJ → tI → tJ → Prop) (Ic : tI) (Jc : tJ) (Ir : tI) (Jr : tJ) : Prop := ∃ n, n ≤ 3 ∧ (Ic 0 12 = Int32.ofNat n ∧ Ir 185 36 = Int32.ofNat n) ∧ ∀ j, j < n → V (113 + 24 * j) (620 * (j + 1)) (15 * (j + 1)) Ic Jc Ir Jr
theorem MV_fr (hF : FPI V FI GI) (h : MV V Ic Jc Ir Jr) (c : ∀ b, b ∈ [113, 137, 161] → ∀ q, q ∈ FI → Ic' (b + q.1) q.2 = Ic (b + q.1) q.2) (c12 : Ic' 0 12 = Ic 0 12) (g : ∀ s, s ∈ [1, 2, 3] → ∀ k, k ∈ GI → Ir' 186 (620 * s + k) = Ir 186 (620 * s + k)) (g36 : Ir' 185 36 = Ir 185 36) : MV V Ic' Jc' Ir' Jr' := by
  obtain ⟨n, hn, ⟨h1, h2⟩, h3⟩ := h
  refine ⟨n, hn, ⟨c12.trans h1, g36.trans h2⟩, fun j hj => hF _ _ _ _ _ _ _ _ _ _ _ (h3 j hj) (fun q hq => c _ (bas_j (by omega)) q hq) (fun k hk => g (j + 1) ?_ k hk)⟩
  rcases (by omega : j = 0 ∨ j = 1 ∨ j = 2) with rfl | rfl | rfl <;> simp
theorem RV_fr (hF : FPI V FI GI) (h : RV V Ic Jc Ir Jr) (c : ∀ b, b ∈ bas → ∀ q, q ∈ FI → Ic' (b + q.1) q.2 = Ic (b + q.1) q.2) (c12 : Ic' 0 12 = Ic 0 12) (g : ∀ s, s ∈ [0, 1, 2, 3] → ∀ k, k ∈ GI → Ir' 186 (620 * s + k) = Ir 186 (620 * s + k)) (g36 : Ir' 185 36 = Ir 185 36) : RV V Ic' Jc' Ir' Jr' :=
  ⟨hF _ _ _ _ _ _ _ _ _ _ _ h.1 (fun q hq => c 10 List.mem_cons_self q hq) (fun k hk => by
    have := g 0 List.mem_cons_self k hk
    rw [Nat.mul_zero] at this
    exact this), MV_fr hF h.2 (fun b hb q hq => c b (List.mem_cons_of_mem _ hb) q hq) c12 (fun s hs k hk => g s (List.mem_cons_of_mem _ hs) k hk) g36⟩
theorem RV_ag (hF : FPI V FI GI) (hA : kAg ml B I J B' I' J') (h1 : fcC FI bas ml = true) (h2 : fcR GI [0, 1, 2, 3] ml = true) (h : RV V I J I J) : RV V I' J' I' J' :=
  RV_fr hF h (fun b hb q hq => (hA.1 _ _ ((fcC_at h1).1 b hb q hq)).1) (hA.1 _ _ (fcC_at h1).2).1 (fun s hs k hk => (hA.1 _ _ ((fcR_at h2).1 s hs k hk)).1) (hA.1 _ _ (fcR_at h2).2).1
theorem RV_mid (hF : FPI V FI GI) (hA : kAg ml B I J B' I' J') (h2 : fcR GI [0, 1, 2, 3] ml = true) (h : RV V I J I J) : RV V I J I' J' :=
  RV_fr hF h (fun _ _ _ _ => rfl) rfl (fun s hs k hk => (hA.1 _ _ ((fcR_at h2).1 s hs k hk)).1) (hA.1 _ _ (fcR_at h2).2).1
theorem RV_look (hF : FPI V FI GI) (hg : ∀ k, k ∈ GI → k < 252) (hA : kAg ml B I J B' I' J') (h1 : fcC FI bas ml = true) (h2 : fcR GI [1, 2, 3] ml = true) (h3 : ∀ k, k < 252 → I' 186 k = I 186 k) (h : RV V I J I J) : RV V I' J' I' J' :=
  RV_fr hF h (fun b hb q hq => (hA.1 _ _ ((fcC_at h1).1 b hb q hq)).1) (hA.1 _ _ (fcC_at h1).2).1 (fun s hs k hk => by
    rcases List.mem_cons.mp hs with rfl | hs
    · rw [Nat.mul_zero, Nat.zero_add]
      exact h3 k (hg k hk)
    · exact (hA.1 _ _ ((fcR_at h2).1 s hs k hk)).1) (hA.1 _ _ (fcR_at h2).2).1
theorem slB_at (h : slB FI GI = true) : (∀ b, b ∈ bas → ∀ q, q ∈ FI → slI (b + q.1) q.2) ∧ (∀ s, s ∈ [0, 1, 2, 3] → ∀ k, k ∈ GI → slI 186 (620 * s + k)) ∧ slI 0 12 ∧ slI 185 36 := by
  unfold slB at h
  rw [Bool.and_eq_true, Bool.and_eq_true, Bool.and_eq_true] at h
  obtain ⟨⟨a, b⟩, c, d⟩ := h
  refine ⟨fun x hx q hq => slIb_ok ?_, fun s hs k hk => slIb_ok ?_, slIb_ok c, slIb_ok d⟩
  · exact List.all_eq_true.mp (List.all_eq_true.mp a x hx) q hq
  · exact List.all_eq_true.mp (List.all_eq_true.mp b s hs) k hk
theorem RV_end (hF : FPI V FI GI) (hS : slB FI GI = true) (hA : kAg ml B I1 J1 B' I2 J2) (h1 : fcC FI bas ml = true) (hs1 : slq K1 I1 L1 J1) (hs2 : slq K2 I2 L2 J2) (h : RV V K1 L1 K2 L2) : RV V I2 J2 I2 J2 := by
  obtain ⟨a, b, c, d⟩ := slB_at hS
  exact RV_fr hF h (fun x hx q hq => (hA.1 _ _ ((fcC_at h1).1 x hx q hq)).1.trans (hs1.1 _ _ (a x hx q hq))) ((hA.1 _ _ (fcC_at h1).2).1.trans (hs1.1 _ _ c)) (fun s hs k hk => hs2.1 _ _ (b s hs k hk)) (hs2.1 _ _ d)
/-- a scene: the world anew, the marks as they were -/
theorem RV_scene (hF : FPI V FI GI) (hS : slB FI GI = true) (hA1 : kAg ml B I J B1 I1 J1) (hA2 : kAg ml' B1 I1 J1 B' I2 J2) (m1 : fcC FI [113, 137, 161] ml = true) (m2 : fcC FI bas ml' = true) (m3 : fcR GI [0, 1, 2, 3] ml = true) (m4 : fcR GI [1, 2, 3] ml' = true) (hs1 : slq K1 I1 L1 J1) (hs2 : slq K2 I2 L2 J2) (h : RV V I J I J) (hV : V 10 0 0 K1 L1 K2 L2) : RV V I2 J2 I2 J2 := by
  obtain ⟨a, b, c, d⟩ := slB_at hS
  refine ⟨hF _ _ _ _ _ _ _ _ _ _ _ hV (fun q hq => ?_) (fun k hk => ?_), MV_fr hF h.2 (fun x hx q hq => ?_) ?_ (fun s hs k hk => ?_) ?_⟩
  · exact (hA2.1 _ _ ((fcC_at m2).1 10 List.mem_cons_self q hq)).1.trans (hs1.1 _ _ (a 10 List.mem_cons_self q hq))
  · have := hs2.1 _ _ (b 0 List.mem_cons_self k hk)
    rw [Nat.mul_zero] at this
    exact this
  · exact (hA2.1 _ _ ((fcC_at m2).1 x (List.mem_cons_of_mem _ hx) q hq)).1.trans (hA1.1 _ _ ((fcC_at m1).1 x hx q hq)).1
  · exact (hA2.1 _ _ (fcC_at m2).2).1.trans (hA1.1 _ _ (fcC_at m1).2).1
  · exact (hA2.1 _ _ ((fcR_at m4).1 s hs k hk)).1.trans (hA1.1 _ _ ((fcR_at m3).1 s (List.mem_cons_of_mem _ hs) k hk)).1
  · exact (hA2.1 _ _ (fcR_at m4).2).1.trans (hA1.1 _ _ (fcR_at m3).2).1
theorem PB_nok {sc : List Int32} {B : xM} {I : tI} (hO : nOk (ktN sc) B I) : PB I := by
  have h : 0 ≤ (I 186 2).toInt ∧ (I 186 2).toInt ≤ 5 := hO.2.1 186 (20, 3972) 2 rfl (by decide) rfl
  refine ⟨(I 186 2).toInt.toNat, by omega, i32_eq ?_⟩
  rw [oi_int (by omega)]
  omega
end RVL
/-! PRICES -/
def V31 (b sl _u : Nat) (Ic : tI) (_ : tJ) (Ir : tI) (_ : tJ) : Prop := Ic b 4 = Ir 186 (sl + 6) ∧ Ic b 5 = Ir 186 (sl + 7)
def FI31 : List (Nat × Nat) := [(0, 4), (0, 5)]
def GI31 : List Nat := [6, 7]
theorem FP31 : FPI V31 FI31 GI31 := fun b sl u Ic Ir Ic' Ir' Jc Jr Jc' Jr' h h1 h2 =>
  ⟨(h1 (0, 4) List.mem_cons_self).trans (h.1.trans (h2 6 List.mem_cons_self).symm), (h1 (0, 5) (List.mem_cons_of_mem _ List.mem_cons_self)).trans (h.2.trans (h2 7 (List.mem_cons_of_mem _ List.mem_cons_self)).symm)⟩
theorem CP31 : CPV V31 := fun b sl u b' sl' u' Ic Ir Ic' Ir' Jc Jr Jc' Jr' h h1 h2 h3 h4 =>
  ⟨(h1 0 4 (Or.inl ⟨rfl, by omega, by omega⟩)).trans (h.1.trans (h3 6 (by omega)).symm), (h1 0 5 (Or.inl ⟨rfl, by omega, by omega⟩)).trans (h.2.trans (h3 7 (by omega)).symm)⟩
theorem FI31_lt : ∀ q, q ∈ FI31 → 10 + q.1 ≤ 34 := by decide
theorem GI31_lt : ∀ k, k ∈ GI31 → k < 252 := by decide
theorem SL31 : slB FI31 GI31 = true := by decide +kernel
section P31
variable {N N' : Nat} {Ic Ir I1 I2 : tI} {Jc Jr J1 J2 : tJ} {v w : Int32}
theorem W31 {b sl u : Nat} (h : WK b sl u Ic Jc Ir Jr) : V31 b sl u Ic Jc Ir Jr := by
  obtain ⟨P, S, B, W, D, s, ⟨-, -, -, h7, h8⟩, -⟩ := h
  exact ⟨h7, h8⟩
theorem f216_i {I : tI} {J : tJ} {a lo hi : Int32} : f216 I J a.toInt64 lo.toInt64 hi.toInt64 = (if lo.toInt ≤ a.toInt ∧ a.toInt ≤ hi.toInt then 1 else 0, I, J) := by
  generalize e : f216 I J a.toInt64 lo.toInt64 hi.toInt64 = q
  obtain ⟨v, I1, J1⟩ := q
  obtain ⟨⟨rfl, rfl⟩, h⟩ := f216_in e
  rw [Int32.toInt_toInt64, Int32.toInt_toInt64] at h
  by_cases c : lo.toInt ≤ a.toInt ∧ a.toInt ≤ hi.toInt
  · rw [if_pos c]
    have hv : v = 1 := by
      have ea : a.toInt64.toInt = a.toInt := Int32.toInt_toInt64 a
      have el : lo.toInt64.toInt = lo.toInt := Int32.toInt_toInt64 lo
      have eh : hi.toInt64.toInt = hi.toInt := Int32.toInt_toInt64 hi
      unfold f216 at e
      have x1 : xcmp .lt (lg_cmp a.toInt64 lo.toInt64) 0 = false := by
        unfold lg_cmp
        by_cases q : a.toInt64 = lo.toInt64
        · rw [q, if_pos rfl, if_neg (fun h => Int.lt_irrefl _ (Int64.lt_iff_toInt_lt.mp h))]
          rfl
        · have hne : a.toInt64.toInt ≠ lo.toInt64.toInt := fun z => q (Int64.toInt_inj.mp z)
          rw [if_neg q, if_pos (Int64.lt_iff_toInt_lt.mpr (by omega))]
          rfl
      have x2 : xcmp .gt (lg_cmp a.toInt64 hi.toInt64) 0 = false := by
        unfold lg_cmp
        by_cases q : a.toInt64 = hi.toInt64
        · rw [q, if_pos rfl, if_neg (fun h => Int.lt_irrefl _ (Int64.lt_iff_toInt_lt.mp h))]
          rfl
        · have hne : a.toInt64.toInt ≠ hi.toInt64.toInt := fun z => q (Int64.toInt_inj.mp z)
          rw [if_neg q, if_neg (fun h => by have := Int64.lt_iff_toInt_lt.mp h; omega)]
          rfl
      rw [x1, x2, cond_false, cond_false] at e
      cases e
      rfl
    rw [hv]
  · rw [if_neg c]
    by_cases q : v = 0
    · rw [q]
    · exact absurd (h q) c
theorem priced_rel {a b : Int32} (h : RV V31 Ic Jc Ir Jr) (hc : f161_0 Ic Jc a b = (v, I1, J1)) (hr : f292_185 Ir Jr a b = (w, I2, J2)) : v = w ∧ RV V31 I1 J1 I2 J2 := by
  have z0 : (0 : Int32).toInt = 0 := rfl
  have z99 : (99 : Int32).toInt = 99 := rfl
  have z20 : (20 : Int32).toInt = 20 := rfl
  have e1 : f216 Ir Jr a.toInt64 0 99 = _ := f216_i (lo := 0) (hi := 99)
  have e2 : f216 Ir Jr b.toInt64 0 20 = _ := f216_i (lo := 0) (hi := 20)
  have st : ∀ {s s' : Int32}, RV V31 (tup Ic 0 5 s) Jc (tup Ir 185 2 s') Jr := RV_fr FP31 h (fun x hx q hq => tup_ne (by
    have : 10 ≤ x := by
      unfold bas at hx
      simp only [List.mem_cons, List.mem_nil_iff, or_false] at hx
      omega
    omega)) (tup_ne (by omega)) (fun s hs k hk => tup_ne (by omega)) (tup_ne (by omega))
  unfold f161_0 at hc
  unfold f292_185 at hr
  rw [f127_is, z0, z99] at hc
  rw [e1, z0, z99] at hr
  dsimp only at hc hr
  by_cases c1 : 0 ≤ a.toInt ∧ a.toInt ≤ 99
  · rw [if_pos c1, show xcmp .eq (1 : Int32) 0 = false from rfl, cond_false] at hc hr
    rw [f127_is, z0, z20] at hc
    rw [e2, z0, z20] at hr
    dsimp only at hc hr
    by_cases c2 : 0 ≤ b.toInt ∧ b.toInt ≤ 20
    · rw [if_pos c2, n10, cond_true] at hc hr
      unfold f123_0 at hc
      unfold f204_185 at hr
      rw [n00, cond_false] at hr
      cases hc
      cases hr
      refine ⟨rfl, ⟨?_, ?_⟩, MV_fr FP31 h.2 (fun x hx q hq => ?_) ?_ (fun s hs k hk => ?_) ?_⟩
      · show tup (tup (tup Ic 10 4 a) 10 5 b) 0 5 0 10 4 = tup (tup (tup Ir 186 6 a) 186 7 b) 185 2 0 186 6
        rw [tup_ne (by omega), tup_ne (by omega), tup_eq, tup_ne (by omega), tup_ne (by omega), tup_eq]
      · show tup (tup (tup Ic 10 4 a) 10 5 b) 0 5 0 10 5 = tup (tup (tup Ir 186 6 a) 186 7 b) 185 2 0 186 7
        rw [tup_ne (by omega), tup_eq, tup_ne (by omega), tup_eq]
      · have : 113 ≤ x := by
          simp only [List.mem_cons, List.mem_nil_iff, or_false] at hx
          omega
        (try dsimp only); rw [tup_ne (by omega), tup_ne (by omega), tup_ne (by omega)]
      · (try dsimp only); rw [tup_ne (by omega), tup_ne (by omega), tup_ne (by omega)]
      · have : 1 ≤ s := by
          simp only [List.mem_cons, List.mem_nil_iff, or_false] at hs
          omega
        (try dsimp only); rw [tup_ne (by omega), tup_ne (by omega), tup_ne (by omega)]
      · (try dsimp only); rw [tup_ne (by omega), tup_ne (by omega), tup_ne (by omega)]
    · rw [if_neg c2, n00, cond_false] at hc hr
      unfold f124_0 at hc
      unfold f204_185 at hr
      rw [show xcmp .ne (1 : Int32) 0 = true from rfl, cond_true] at hr
      cases hc
      cases hr
      exact ⟨rfl, st⟩
  · rw [if_neg c1, show xcmp .eq (0 : Int32) 0 = true from rfl, cond_true] at hc hr
    unfold f124_0 at hc
    unfold f204_185 at hr
    rw [show xcmp .ne (1 : Int32) 0 = true from rfl, cond_true] at hr
    cases hc
    cases hr
    exact ⟨rfl, st⟩
theorem priceOf_rel {a : Int32} (h : V31 10 0 0 Ic Jc Ir Jr) (hc : f165_0 Ic Jc a = (v, I1, J1)) (hr : f299_185 Ir Jr a = (w, I2, J2)) : v = w := by
  have z1 : (1 : Int32).toInt = 1 := rfl
  have z999 : (999 : Int32).toInt = 999 := rfl
  have e1 : f216 Ir Jr a.toInt64 1 999 = _ := f216_i (lo := 1) (hi := 999)
  unfold f165_0 at hc
  unfold f299_185 at hr
  rw [f127_is, z1, z999] at hc
  rw [e1, z1, z999] at hr
  dsimp only at hc hr
  by_cases c1 : 1 ≤ a.toInt ∧ a.toInt ≤ 999
  · rw [if_pos c1, show xcmp .eq (1 : Int32) 0 = false from rfl, cond_false] at hc hr
    unfold f106_10 f121_0 at hc
    unfold f270_185 f206_185 at hr
    cases hc
    cases hr
    rw [h.1, h.2]
  · rw [if_neg c1, show xcmp .eq (0 : Int32) 0 = true from rfl, cond_true] at hc hr
    unfold f122_0 at hc
    unfold f205_185 at hr
    cases hc
    cases hr
    rfl
end P31
theorem nat_i {a : Int32} (h : 0 ≤ a.toInt) : ∃ n : Nat, n < 2147483648 ∧ a = Int32.ofNat n := by
  have h2 := (ti_bd a).2
  refine ⟨a.toInt.toNat, by omega, i32_eq ?_⟩
  rw [oi_int (by omega)]
  omega
