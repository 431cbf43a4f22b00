/-! STEPS -/
def V17 (b sl _u : Nat) (Ic : tI) (_ : tJ) (Ir : tI) (_ : tJ) : Prop := ∃ P, P ≤ 5 ∧ Ic (b + 2) 0 = Int32.ofNat P ∧ Ir 186 (sl + 2) = Int32.ofNat P ∧ ∀ p, p < P → ∃ m, 1 ≤ m ∧ m ≤ 8 ∧ Ic (b + 7) p = Int32.ofNat m ∧ Ir 186 (sl + (43 + 14 * p)) = Int32.ofNat m ∧ ∀ k, k < m → Ic (b + 8) (8 * p + k) = Ir 186 (sl + (46 + 14 * p + k))
def FI17 : List (Nat × Nat) := (2, 0) :: ((List.range 5).map (fun p => (7, p)) ++ (List.range 40).map (fun k => (8, k)))
def GI17 : List Nat := 2 :: ((List.range 5).map (fun p => 43 + 14 * p) ++ (List.range 5).flatMap (fun p => (List.range 8).map (fun k => 46 + 14 * p + k)))
theorem i17_7 {p : Nat} (h : p < 5) : (7, p) ∈ FI17 := by
  unfold FI17
  exact List.mem_cons_of_mem _ (List.mem_append_left _ (List.mem_map.mpr ⟨p, List.mem_range.mpr h, rfl⟩))
theorem i17_8 {k : Nat} (h : k < 40) : (8, k) ∈ FI17 := by
  unfold FI17
  exact List.mem_cons_of_mem _ (List.mem_append_right _ (List.mem_map.mpr ⟨k, List.mem_range.mpr h, rfl⟩))
theorem g17_3 {p : Nat} (h : p < 5) : 43 + 14 * p ∈ GI17 := by
  unfold GI17
  exact List.mem_cons_of_mem _ (List.mem_append_left _ (List.mem_map.mpr ⟨p, List.mem_range.mpr h, rfl⟩))
theorem g17_6 {p k : Nat} (h : p < 5) (h2 : k < 8) : 46 + 14 * p + k ∈ GI17 := by
  unfold GI17
  exact List.mem_cons_of_mem _ (List.mem_append_right _ (List.mem_flatMap.mpr ⟨p, List.mem_range.mpr h, List.mem_map.mpr ⟨k, List.mem_range.mpr h2, rfl⟩⟩))
theorem FI17_lt : ∀ q, q ∈ FI17 → 10 + q.1 ≤ 34 := by decide
theorem GI17_lt : ∀ k, k ∈ GI17 → k < 252 := by decide
set_option maxRecDepth 100000 in
theorem SL17 : slB FI17 GI17 = true := by decide +kernel
theorem FP17 : FPI V17 FI17 GI17 := fun b sl u Ic Ir Ic' Ir' Jc Jr Jc' Jr' h h1 h2 => by
  obtain ⟨P, hP, c1, c2, c3⟩ := h
  refine ⟨P, hP, (h1 (2, 0) List.mem_cons_self).trans c1, (h2 2 List.mem_cons_self).trans c2, fun p hp => ?_⟩
  obtain ⟨m, m1, m8, d, e, f⟩ := c3 p hp
  exact ⟨m, m1, m8, (h1 (7, p) (i17_7 (by omega))).trans d, (h2 _ (g17_3 (by omega))).trans e, fun k hk => (h1 (8, 8 * p + k) (i17_8 (by omega))).trans ((f k hk).trans (h2 _ (g17_6 (by omega) (by omega))).symm)⟩
theorem CP17 : CPV V17 := fun b sl u b' sl' u' Ic Ir Ic' Ir' Jc Jr Jc' Jr' h h1 h2 h3 h4 => by
  obtain ⟨P, hP, c1, c2, c3⟩ := h
  refine ⟨P, hP, (h1 2 0 (by unfold cpI; omega)).trans c1, (h3 2 (by omega)).trans c2, fun p hp => ?_⟩
  obtain ⟨m, m1, m8, d, e, f⟩ := c3 p hp
  exact ⟨m, m1, m8, (h1 7 p (by unfold cpI; omega)).trans d, (h3 _ (by omega)).trans e, fun k hk => (h1 8 (8 * p + k) (by unfold cpI; omega)).trans ((f k hk).trans (h3 _ (by omega)).symm)⟩
section P17
variable {N N' : Nat} {Ic Ir I1 I2 I : tI} {Jc Jr J1 J2 J : tJ} {v w : Int32}
theorem W17 {b sl u : Nat} (h : WK b sl u Ic Jc Ir Jr) : V17 b sl u Ic Jc Ir Jr := by
  obtain ⟨P, S, B, W, D, s, ⟨⟨⟨hP, -, -⟩, -⟩, ⟨-, -, a3, -⟩, ⟨-, -, b3, -⟩, -⟩, -, hF, -⟩ := h
  refine ⟨P, hP, a3, b3, fun p hp => ?_⟩
  obtain ⟨-, -, ⟨m, m1, m8, d, e, f⟩, -⟩ := hF p hp
  refine ⟨m, m1, m8, d, ?_, fun k hk => ?_⟩
  · rw [show sl + (43 + 14 * p) = sl + 40 + 14 * p + 3 by omega]
    exact e
  · rw [show sl + (46 + 14 * p + k) = sl + 40 + 14 * p + 6 + k by omega]
    exact f k hk
theorem isp_c {a : Int32} {P : Nat} (h : I 12 0 = Int32.ofNat P) (hP : P ≤ 5) : f128_0 I J a = (if 0 ≤ a.toInt ∧ a.toInt < P then 1 else 0, I, J) := by
  unfold f128_0
  rw [f127_is, h, oi_sub1 (by omega), show (0 : Int32).toInt = 0 from rfl]
  dsimp only
  by_cases c : 0 ≤ a.toInt ∧ a.toInt < P
  · rw [if_pos c, if_pos (by omega)]
  · rw [if_neg c, if_neg (by omega)]
theorem isp_r {a : Int32} {P : Nat} (h : I 186 2 = Int32.ofNat P) (hP : P ≤ 5) : f254_185 I J a = (if 0 ≤ a.toInt ∧ a.toInt < P then 1 else 0, I, J) := by
  unfold f254_185
  rw [h, tc_lt, tc_ge, oi_int (by omega), show (0 : Int32).toInt = 0 from rfl]
  by_cases c : a.toInt < 0
  · rw [decide_eq_true c, cond_true, if_neg (by omega)]
  · rw [decide_eq_false c, cond_false]
    by_cases d : (P : Int) ≤ a.toInt
    · rw [decide_eq_true d, cond_true, if_neg (by omega)]
    · rw [decide_eq_false d, cond_false, if_pos (by omega)]
theorem row_r {p k : Nat} (hp : p < 5) (hk : k < 14) : f260_185 I J (Int32.ofNat p) (Int32.ofNat k) = (I 186 (40 + 14 * p + k), I, J) := by
  unfold f260_185 f251
  dsimp only
  rw [show (14 : Int32) * Int32.ofNat p = Int32.ofNat (14 * p) from oi_mul (a := 14), show (40 : Int32) + Int32.ofNat (14 * p) = Int32.ofNat (40 + 14 * p) from oi_add (a := 40), oi_add, oi_nat (by omega)]
theorem l_pred {m : Nat} (h1 : 1 ≤ m) (h8 : m ≤ 8) : (Int32.ofNat m).toInt64 - 1 = (Int32.ofNat (m - 1)).toInt64 := by
  rcases (by omega : m = 1 ∨ m = 2 ∨ m = 3 ∨ m = 4 ∨ m = 5 ∨ m = 6 ∨ m = 7 ∨ m = 8) with rfl | rfl | rfl | rfl | rfl | rfl | rfl | rfl <;> decide
theorem stepOf_rel {a k : Int32} (h : V17 10 0 0 Ic Jc Ir Jr) (hc : f151_0 Ic Jc a k = (v, I1, J1)) (hr : f276_185 Ir Jr a k = (w, I2, J2)) : v = w := by
  obtain ⟨P, hP, c1, c2, c3⟩ := h
  have z0 : (0 : Int32).toInt = 0 := rfl
  unfold f151_0 at hc
  unfold f276_185 at hr
  rw [isp_c c1 hP] at hc
  rw [isp_r (by rw [← c2]) hP] at hr
  dsimp only at hc hr
  by_cases ha : 0 ≤ a.toInt ∧ a.toInt < P
  · obtain ⟨p, hp, rfl⟩ := nat_i ha.1
    rw [oi_int hp] at ha
    obtain ⟨m, m1, m8, d, e, f⟩ := c3 p (by omega)
    rw [oi_int hp] at hc hr
    rw [if_pos ha, n10, cond_true, oi_nat hp, d, f127_is, oi_sub1 (by omega), z0] at hc
    rw [if_pos ha, n10, cond_true, tc_lt, z0, show (3 : Int32) = Int32.ofNat 3 from rfl, row_r (by omega) (by omega)] at hr
    rw [show 0 + (43 + 14 * p) = 40 + 14 * p + 3 by omega] at e
    dsimp only at hc hr
    rw [e, tc_lt, oi_int (by omega)] at hr
    by_cases hk : 0 ≤ k.toInt ∧ k.toInt ≤ (m : Int) - 1
    · obtain ⟨q, hq, rfl⟩ := nat_i hk.1
      rw [if_pos hk, n10, cond_true] at hc
      rw [oi_int hq] at hk hr
      rw [decide_eq_false (by omega), cond_false, decide_eq_true (by omega), cond_true, show (6 : Int32) + Int32.ofNat q = Int32.ofNat (6 + q) from oi_add (a := 6), row_r (by omega) (by omega)] at hr
      unfold f121_0 at hc
      unfold f206_185 at hr
      rw [show Int32.ofNat p * 8 = Int32.ofNat (p * 8) from oi_mul (b := 8), oi_add, oi_nat (by omega)] at hc
      cases hc
      cases hr
      have := f q (by omega)
      rw [show p * 8 + q = 8 * p + q by omega, show 40 + 14 * p + (6 + q) = 0 + (46 + 14 * p + q) by omega]
      exact this
    · rw [if_neg hk, n00, cond_false] at hc
      unfold f122_0 at hc
      cases hc
      unfold f205_185 at hr
      by_cases h0 : k.toInt < 0
      · rw [decide_eq_true h0, cond_true] at hr
        cases hr
        rfl
      · rw [decide_eq_false h0, cond_false, decide_eq_false (by omega), cond_false] at hr
        cases hr
        rfl
  · rw [if_neg ha, n00, cond_false] at hc hr
    unfold f122_0 at hc
    unfold f205_185 at hr
    cases hc
    cases hr
    rfl
theorem teach_rel {a k s : Int32} (h : RV V17 Ic Jc Ir Jr) (hc : f163_0 Ic Jc a k s = (v, I1, J1)) (hr : f294_185 Ir Jr a k s = (w, I2, J2)) : v = w ∧ RV V17 I1 J1 I2 J2 := by
  obtain ⟨P, hP, c1, c2, c3⟩ := id h.1
  have z0 : (0 : Int32).toInt = 0 := rfl
  have z4 : (4 : Int32).toInt = 4 := rfl
  have rej : f124_0 Ic Jc 1 = (v, I1, J1) → f204_185 Ir Jr 1 = (w, I2, J2) → v = w ∧ RV V17 I1 J1 I2 J2 := fun q1 q2 => by
    unfold f124_0 at q1
    unfold f204_185 at q2
    rw [show xcmp .ne (1 : Int32) 0 = true from rfl, cond_true] at q2
    cases q1
    cases q2
    refine ⟨rfl, RV_fr FP17 h (fun x hx q hq => tup_ne (by
      have : 10 ≤ x := by
        unfold bas at hx
        simp only [List.mem_cons, List.mem_nil_iff, or_false] at hx
        omega
      omega)) (tup_ne (by omega)) (fun s hs k hk => tup_ne (by omega)) (tup_ne (by omega))⟩
  unfold f163_0 at hc
  unfold f294_185 at hr
  rw [isp_c c1 hP] at hc
  rw [isp_r (by rw [← c2]) hP] at hr
  dsimp only at hc hr
  by_cases ha : 0 ≤ a.toInt ∧ a.toInt < P
  · obtain ⟨p, hp, rfl⟩ := nat_i ha.1
    rw [oi_int hp] at ha
    obtain ⟨m, m1, m8, d, e, f⟩ := c3 p (by omega)
    rw [show 0 + (43 + 14 * p) = 40 + 14 * p + 3 by omega] at e
    rw [oi_int hp] at hc hr
    rw [if_pos ha, show xcmp .eq (1 : Int32) 0 = false from rfl, cond_false, f127_is, z0, z4] at hc
    rw [if_pos ha, show xcmp .eq (1 : Int32) 0 = false from rfl, cond_false, show (3 : Int32) = Int32.ofNat 3 from rfl, row_r (by omega) (by omega)] at hr
    dsimp only at hc hr
    have e1 : f216 Ir Jr k.toInt64 0 (Int32.ofNat (m - 1)).toInt64 = _ := f216_i (lo := 0) (hi := Int32.ofNat (m - 1))
    have e2 : f216 Ir Jr s.toInt64 0 4 = _ := f216_i (lo := 0) (hi := 4)
    rw [e, l_pred m1 m8, e1, z0, oi_int (by omega)] at hr
    dsimp only at hr
    by_cases hs : 0 ≤ s.toInt ∧ s.toInt ≤ 4
    · rw [if_pos hs, n10, cond_true, oi_nat hp, d, f127_is, oi_sub1 (by omega), z0] at hc
      dsimp only at hc
      by_cases hk : 0 ≤ k.toInt ∧ k.toInt ≤ (m : Int) - 1
      · obtain ⟨q, hq, rfl⟩ := nat_i hk.1
        have hk' := hk
        rw [oi_int hq] at hk'
        rw [if_pos hk, n10, cond_true, show Int32.ofNat p * 8 = Int32.ofNat (p * 8) from oi_mul (b := 8), oi_add, oi_nat (by omega)] at hc
        rw [if_pos (by omega), show xcmp .eq (1 : Int32) 0 = false from rfl, cond_false, e2, z0, z4] at hr
        dsimp only at hr
        rw [if_pos hs, n10, cond_true] at hr
        unfold f251 at hr
        dsimp only at hr
        rw [show (14 : Int32) * Int32.ofNat p = Int32.ofNat (14 * p) from oi_mul (a := 14), show (40 : Int32) + Int32.ofNat (14 * p) = Int32.ofNat (40 + 14 * p) from oi_add (a := 40), show Int32.ofNat (40 + 14 * p) + 6 = Int32.ofNat (40 + 14 * p + 6) from oi_add (b := 6), oi_add, oi_nat (by omega)] at hr
        unfold f123_0 at hc
        unfold f204_185 at hr
        rw [n00, cond_false] at hr
        cases hc
        cases hr
        refine ⟨rfl, ⟨P, hP, ?_, ?_, fun p' hp' => ?_⟩, MV_fr FP17 h.2 (fun x hx q hq => ?_) ?_ (fun s hs k hk => ?_) ?_⟩
        · dsimp only
          rw [tup_ne (by omega), tup_ne (by omega)]
          exact c1
        · dsimp only
          rw [tup_ne (by omega), tup_ne (by omega)]
          exact c2
        · obtain ⟨m', m1', m8', d', e', f'⟩ := c3 p' hp'
          refine ⟨m', m1', m8', ?_, ?_, fun k' hk'' => ?_⟩
          · dsimp only
            rw [tup_ne (by omega), tup_ne (by omega)]
            exact d'
          · dsimp only
            rw [tup_ne (by omega), tup_ne (by omega)]
            exact e'
          · dsimp only
            by_cases z : p' = p ∧ k' = q
            · obtain ⟨rfl, rfl⟩ := z
              rw [show p' * 8 + k' = 8 * p' + k' by omega, show 40 + 14 * p' + 6 + k' = 0 + (46 + 14 * p' + k') by omega]
              refine (tup_ne (by omega)).trans (tup_eq.trans (Eq.trans tup_eq.symm (tup_ne (by omega)).symm))
            · refine (tup_ne (by omega)).trans ((tup_ne (by omega)).trans ((f' k' hk'').trans (Eq.trans (tup_ne (by omega)).symm (tup_ne (by omega)).symm)))
        · have : 113 ≤ x := by
            simp only [List.mem_cons, List.mem_nil_iff, or_false] at hx
            omega
          dsimp only
          rw [tup_ne (by omega), tup_ne (by omega)]
        · dsimp only
          rw [tup_ne (by omega), tup_ne (by omega)]
        · have : 1 ≤ s := by
            simp only [List.mem_cons, List.mem_nil_iff, or_false] at hs
            omega
          dsimp only
          rw [tup_ne (by omega), tup_ne (by omega)]
        · dsimp only
          rw [tup_ne (by omega), tup_ne (by omega)]
      · rw [if_neg hk, n00, cond_false] at hc
        rw [if_neg (by omega), show xcmp .eq (0 : Int32) 0 = true from rfl, cond_true] at hr
        exact rej hc hr
    · rw [if_neg hs, n00, cond_false] at hc
      by_cases hk : 0 ≤ k.toInt ∧ k.toInt ≤ ((m - 1 : Nat) : Int)
      · rw [if_pos hk, show xcmp .eq (1 : Int32) 0 = false from rfl, cond_false, e2, z0, z4] at hr
        dsimp only at hr
        rw [if_neg hs, n00, cond_false] at hr
        exact rej hc hr
      · rw [if_neg hk, show xcmp .eq (0 : Int32) 0 = true from rfl, cond_true] at hr
        exact rej hc hr
  · rw [if_neg ha, show xcmp .eq (0 : Int32) 0 = true from rfl, cond_true] at hc hr
    exact rej hc hr
end P17
